section
variable {p : Program} {l : Launch} {e : Env} {R : Room} {s : State} {m : MethodId} {args : Array Value} {below : List Frame} {meth : Method} {c : Code}
variable {dC : Nat → ClassId} {dI : Nat → Nat → Nat} {b : Nat → Nat} {k : Nat → ClassId} {A : Nat → Prop}
def C_X0_init_b101_s (b : Nat → Nat) (k : Nat → ClassId) (MC MS : Nat) (h : Nat) (Q : cS → Prop) (K101 : Option Nat → Int32 → Nat → Nat → cS → Prop) (x6 : Option Nat) (x9 : Int32) (nc : Nat) (ns : Nat) (σ : cS) : Prop :=
 ∃ (n105 : Nat) (f105 : Nat → Option Nat), pQ σ.2.2.2.2 x6 (k 3) n105 f105 ∧ ((Int32.ofNat n105) ≤ x9 → Q σ) ∧ (¬ (Int32.ofNat n105) ≤ x9 → ∃ v110 : Option Nat, pR σ.2.2.2.2 (some h) 0 7 v110 ∧ ∃ (n119 : Nat) (f119 : Nat → Option Nat), pQ σ.2.2.2.2 x6 (k 3) n119 f119 ∧ vp_in x9 n119 ∧ ∃ v120 : Int32, pI σ.2.2.2.2 (f119 x9.toNatClampNeg) 5 1 v120 ∧ ∃ (a123 j123 n123 : Nat) (f123 : Nat → Int32), v110 = some a123 ∧ σ.2.2.2.2[j123]? = some (a123, .inl (k 0, n123, .inl f123)) ∧ vp_in x9 n123 ∧ ∀ t123 : cS, t123 = sP σ j123 (a123, .inl (k 0, n123, .inl (upd f123 x9.toNatClampNeg v120))) → ∀ v124 : Int32, v124 = x9 + (1 : Int32) → K101 x6 v124 nc ns t123)
def C_X0_init_b101_f (b : Nat → Nat) (k : Nat → ClassId) (MC MS : Nat) (h : Nat) (Q : cS → Prop) : (Option Nat × Int32 × Nat × Nat × cS → Prop) → Option Nat × Int32 × Nat × Nat × cS → Prop :=
 fun K z => C_X0_init_b101_s b k MC MS h Q (fun x6 x9 nc ns σ => K (x6, x9, nc, ns, σ)) z.1 z.2.1 z.2.2.1 z.2.2.2.1 z.2.2.2.2
def C_X0_init_b101 (b : Nat → Nat) (k : Nat → ClassId) (MC MS : Nat) (h : Nat) (Q : cS → Prop) (x6 : Option Nat) (x9 : Int32) (nc : Nat) (ns : Nat) (σ : cS) : Prop := ∃ n, fx (C_X0_init_b101_f b k MC MS h Q ) n (x6, x9, nc, ns, σ)
set_option maxHeartbeats 4000000 in
set_option maxRecDepth 100000 in
theorem cB_X0_init_101 {MC MS : Nat} {h : Nat} {Q : cS → Prop} (X : CallFix p m c cX0_init 10 s args wsX0_init RX0) (hr : meth.sig.returnType = none) (hlk : meth.locks = false) (hR : 1 ≤ R.frames ∧ 60 ≤ R.locals) (hK : cK dC dI k s) (hA : ∀ q, s.heap.size ≤ q → A q) (hRc : R.cells = MC ∧ R.slots = MS) (hin0 : meth.name = "<init>") : ∀ (n : Nat) (x6 : Option Nat) (x9 : Int32) (nc : Nat) (ns : Nat) (σ : cS) (H : Heap) (locs : List Loc) (ls : Array Slot), lv_has ls 10 [(0, .ref h), (6, va_rf x6), (9, .int x9)] → cO dC dI b k A s.heap σ H locs → (nc ≤ MC ∧ ns ≤ MS) → fx (C_X0_init_b101_f b k MC MS h Q ) n (x6, x9, nc, ns, σ) → W p l e R s m args below meth c H locs nc ns (MQ below (va_Qv Q (cAt dC dI A b k) A) args s MC MS A) (F0 m 101 ls []) := by
  intro n
  induction n with
  | zero => intro x6 x9 nc ns σ H locs ls hl hO hc hw; exact False.elim hw
  | succ n k101 =>
    intro x6 x9 nc ns σ H locs ls hl hO hc hw
    have hw : C_X0_init_b101_s b k MC MS h Q (fun x6 x9 nc ns σ => fx (C_X0_init_b101_f b k MC MS h Q ) n (x6, x9, nc, ns, σ)) x6 x9 nc ns σ := hw
    unfold C_X0_init_b101_s at hw
    refine lv_iload X.1 X.2.1 dX0_init_101 (lv_at hl 2 rfl) ?_
    refine lv_aloadO X.1 X.2.1 dX0_init_103 (lv_at hl 1 rfl) ?_
    obtain ⟨n105, f105, g105, hw⟩ := hw
    refine clenQ X.1 X.2.1 hK hO g105 dX0_init_105 ?_
    refine lv_icmp_ge (tgt := 130) X.1 X.2.1 dX0_init_106 rfl (fun hc9 => ?_) (fun hc9 => ?_)
    · have hw := hw.1 hc9
      refine W.widen (k := MC) (n := MS) hc.1 hc.2 ?_
      exact W.vret X.1 X.2.1 hr (fun t ht hW => ⟨⟨σ, rfl, hw, cO_end hO hK ht hW⟩, hO.2.2.F ht⟩) hO.2.2.2.2 dX0_init_130 hlk
    · have hw := hw.2 hc9
      refine lv_aload_n X.1 X.2.1 dX0_init_109 rfl (lv_at hl 0 rfl) ?_
      obtain ⟨v110, g110, hw⟩ := hw
      refine cg_X0_annotationTypes X fX0_X0_annotationTypes hK hO g110 dX0_init_110 ?_
      refine lv_iload X.1 X.2.1 dX0_init_113 (lv_at hl 2 rfl) ?_
      refine lv_aloadO X.1 X.2.1 dX0_init_115 (lv_at hl 1 rfl) ?_
      refine lv_iload X.1 X.2.1 dX0_init_117 (lv_at hl 2 rfl) ?_
      obtain ⟨n119, f119, g119, k119, hw⟩ := hw
      refine caaload X.1 X.2.1 hK hO g119 k119 dX0_init_119 ?_
      obtain ⟨v120, g120, hw⟩ := hw
      refine cg_X5_number X fX0_X5_number hK hO g120 dX0_init_120 ?_
      obtain ⟨a123, j123, n123, f123, g123, q123, k123, hw⟩ := hw
      refine ciastore X.1 X.2.1 hK hO g123 q123 k123 dX0_init_123 (fun H locs hO => ?_)
      obtain ⟨t123, e123⟩ : ∃ z, z = sP σ j123 (a123, .inl (k 0, n123, .inl (upd f123 x9.toNatClampNeg v120))) := ⟨_, rfl⟩
      have hw := hw t123 e123
      rw [← e123] at hO
      obtain ⟨v124, e124⟩ : ∃ z, z = x9 + (1 : Int32) := ⟨_, rfl⟩
      have hw := hw v124 e124
      refine lv_iinc (lv' := [(9, .int v124), (0, .ref h), (6, va_rf x6)]) (k := 2) (v := v124) X.1 X.2.1 dX0_init_124 hl rfl (by rw [e124]; rfl) (by decide) rfl (fun ls hl => ?_)
      refine lv_goto (tgt := 101) X.1 X.2.1 dX0_init_127 rfl ?_
      exact k101 x6 v124 nc ns t123 H locs ls (lv_sub hl [1, 2, 0] rfl) hO hc hw
def C_X0_init_b74 (b : Nat → Nat) (k : Nat → ClassId) (MC MS : Nat) (h : Nat) (Q : cS → Prop) (x5 : Option Nat) (x6 : Option Nat) (x8 : Int32) (nc : Nat) (ns : Nat) (σ : cS) : Prop :=
 ∃ v78 : Option Nat, pR σ.2.2.2.2 (some h) 0 6 v78 ∧ ∃ (n85 : Nat) (f85 : Nat → Int32), pA σ.2.2.2.2 x5 (k 0) n85 f85 ∧ ∃ (a86 i86 n86 : Nat) (f86 : Nat → Int32) (b86 j86 m86 : Nat) (g86 : Nat → Int32), x5 = some a86 ∧ σ.2.2.2.2[i86]? = some (a86, .inl (k 0, n86, .inl f86)) ∧ v78 = some b86 ∧ σ.2.2.2.2[j86]? = some (b86, .inl (k 0, m86, .inl g86)) ∧ ¬ (0 : Int32) < 0 ∧ ¬ x8 < 0 ∧ ¬ (Int32.ofNat n85) < 0 ∧ (0 : Int32).toNatClampNeg + (Int32.ofNat n85).toNatClampNeg ≤ n86 ∧ x8.toNatClampNeg + (Int32.ofNat n85).toNatClampNeg ≤ m86 ∧ ∀ t86 : cS, t86 = sP σ j86 (b86, .inl (k 0, m86, .inl (va_cpy f86 g86 (0 : Int32).toNatClampNeg x8.toNatClampNeg (Int32.ofNat n85).toNatClampNeg))) → ∃ (n92 : Nat) (f92 : Nat → Option Nat), pQ t86.2.2.2.2 x6 (k 3) n92 f92 ∧ ¬ (Int32.ofNat n92) < 0 ∧ (Int32.ofNat n92).toNatClampNeg ≤ 1000 ∧ nc + 1 ≤ MC ∧ ns + (Int32.ofNat n92).toNatClampNeg ≤ MS ∧ ∀ (q93 : Nat) (t93 : cS), t93 = sN t86 (q93, .inl (k 0, (Int32.ofNat n92).toNatClampNeg, .inl (fun _ => 0))) → ∃ (j95 : Nat) (f95 : List Value), t93.2.2.2.2[j95]? = some (h, .inr (0, f95)) ∧ 7 < f95.length ∧ ∀ t95 : cS, t95 = sP t93 j95 (h, .inr (0, f95.set 7 (va_rf (some q93)))) → C_X0_init_b101 b k MC MS h Q x6 (0 : Int32) (nc + 1) (ns + (Int32.ofNat n92).toNatClampNeg) t95
set_option maxHeartbeats 4000000 in
set_option maxRecDepth 100000 in
theorem cB_X0_init_74 {MC MS : Nat} {h : Nat} {Q : cS → Prop} (X : CallFix p m c cX0_init 10 s args wsX0_init RX0) (hr : meth.sig.returnType = none) (hlk : meth.locks = false) (hR : 1 ≤ R.frames ∧ 60 ≤ R.locals) (hK : cK dC dI k s) (hA : ∀ q, s.heap.size ≤ q → A q) (hRc : R.cells = MC ∧ R.slots = MS) (hin0 : meth.name = "<init>") (x5 : Option Nat) (x6 : Option Nat) (x8 : Int32) (nc : Nat) (ns : Nat) (σ : cS) (H : Heap) (locs : List Loc) (ls : Array Slot) (hl : lv_has ls 10 [(0, .ref h), (5, va_rf x5), (6, va_rf x6), (8, .int x8)]) (hO : cO dC dI b k A s.heap σ H locs) (hc : (nc ≤ MC ∧ ns ≤ MS)) (hw : C_X0_init_b74 b k MC MS h Q x5 x6 x8 nc ns σ) : W p l e R s m args below meth c H locs nc ns (MQ below (va_Qv Q (cAt dC dI A b k) A) args s MC MS A) (F0 m 74 ls []) := by
  unfold C_X0_init_b74 at hw
  refine lv_aloadO X.1 X.2.1 dX0_init_74 (lv_at hl 1 rfl) ?_
  refine lv_iconst (v := 0) X.1 X.2.1 dX0_init_76 (by decide) ?_
  refine lv_aload_n X.1 X.2.1 dX0_init_77 rfl (lv_at hl 0 rfl) ?_
  obtain ⟨v78, g78, hw⟩ := hw
  refine cg_X0_supertypes X fX0_X0_supertypes hK hO g78 dX0_init_78 ?_
  refine lv_iload X.1 X.2.1 dX0_init_81 (lv_at hl 3 rfl) ?_
  refine lv_aloadO X.1 X.2.1 dX0_init_83 (lv_at hl 1 rfl) ?_
  obtain ⟨n85, f85, g85, hw⟩ := hw
  refine clenA X.1 X.2.1 hK hO g85 dX0_init_85 ?_
  obtain ⟨a86, i86, n86, f86, b86, j86, m86, g86, z86_0, z86_1, z86_2, z86_3, z86_4, z86_5, z86_6, z86_7, z86_8, hw⟩ := hw
  refine ccopy (o0 := x5) (o := v78) X cpX0 hK hO z86_0 z86_1 z86_2 z86_3 z86_4 z86_5 z86_6 z86_7 z86_8 hl.1 (Nat.le_trans (by decide) hR.1) (Nat.le_trans (by decide) hR.2) dX0_init_86 (fun H locs hO => ?_)
  obtain ⟨t86, e86⟩ : ∃ z, z = sP σ j86 (b86, .inl (k 0, m86, .inl (va_cpy f86 g86 (0 : Int32).toNatClampNeg x8.toNatClampNeg (Int32.ofNat n85).toNatClampNeg))) := ⟨_, rfl⟩
  have hw := hw t86 e86
  rw [← e86] at hO
  refine lv_aload_n X.1 X.2.1 dX0_init_89 rfl (lv_at hl 0 rfl) ?_
  refine lv_aloadO X.1 X.2.1 dX0_init_90 (lv_at hl 2 rfl) ?_
  obtain ⟨n92, f92, g92, hw⟩ := hw
  refine clenQ X.1 X.2.1 hK hO g92 dX0_init_92 ?_
  obtain ⟨g93, k93, hc1, hc2, hw⟩ := hw
  have hc : nc + 1 ≤ MC ∧ ns + (Int32.ofNat n92).toNatClampNeg ≤ MS := ⟨hc1, hc2⟩
  refine cnewa X  hK hO hA g93 k93 (by rw [hRc.1]; exact hc.1) (by rw [hRc.2]; exact hc.2) dX0_init_93 (fun q93 H hO => ?_)
  obtain ⟨t93, e93⟩ : ∃ z, z = sN t86 (q93, .inl (k 0, (Int32.ofNat n92).toNatClampNeg, .inl (fun _ => 0))) := ⟨_, rfl⟩
  have hw := hw q93 t93 e93
  rw [← e93] at hO
  obtain ⟨j95, f95, g95, k95, hw⟩ := hw
  refine cw_X0_annotationTypes (o := (some q93)) X fX0_X0_annotationTypes hK hO hin0 g95 k95 dX0_init_95 (fun H locs hO => ?_)
  obtain ⟨t95, e95⟩ : ∃ z, z = sP t93 j95 (h, .inr (0, f95.set 7 (va_rf (some q93)))) := ⟨_, rfl⟩
  have hw := hw t95 e95
  rw [← e95] at hO
  refine lv_iconst (v := 0) X.1 X.2.1 dX0_init_98 (by decide) ?_
  refine lv_istore (lv' := [(9, .int (0 : Int32)), (0, .ref h), (5, va_rf x5), (6, va_rf x6), (8, .int x8)]) X.1 X.2.1 dX0_init_99 hl (by decide) rfl (fun ls hl => ?_)
  obtain ⟨n, hw⟩ := hw
  exact cB_X0_init_101 X hr hlk hR hK hA hRc hin0 n x6 (0 : Int32) (nc + 1) (ns + (Int32.ofNat n92).toNatClampNeg) t95 H locs ls (lv_sub hl [1, 3, 0] rfl) hO hc hw
def C_X0_init_b47 (b : Nat → Nat) (k : Nat → ClassId) (MC MS : Nat) (h : Nat) (Q : cS → Prop) (x3 : Int32) (x5 : Option Nat) (x6 : Option Nat) (y0 : Int32) (nc : Nat) (ns : Nat) (σ : cS) : Prop :=
 ∃ (n54 : Nat) (f54 : Nat → Int32), pA σ.2.2.2.2 x5 (k 0) n54 f54 ∧ ¬ (y0 + (Int32.ofNat n54)) < 0 ∧ (y0 + (Int32.ofNat n54)).toNatClampNeg ≤ 1000 ∧ nc + 1 ≤ MC ∧ ns + (y0 + (Int32.ofNat n54)).toNatClampNeg ≤ MS ∧ ∀ (q56 : Nat) (t56 : cS), t56 = sN σ (q56, .inl (k 0, (y0 + (Int32.ofNat n54)).toNatClampNeg, .inl (fun _ => 0))) → ∃ (j58 : Nat) (f58 : List Value), t56.2.2.2.2[j58]? = some (h, .inr (0, f58)) ∧ 6 < f58.length ∧ ∀ t58 : cS, t58 = sP t56 j58 (h, .inr (0, f58.set 6 (va_rf (some q56)))) → (¬ y0 = (1 : Int32) → C_X0_init_b74 b k MC MS h Q x5 x6 y0 (nc + 1) (ns + (y0 + (Int32.ofNat n54)).toNatClampNeg) t58) ∧ (y0 = (1 : Int32) → ∃ v68 : Option Nat, pR t58.2.2.2.2 (some h) 0 6 v68 ∧ ∃ (a73 j73 n73 : Nat) (f73 : Nat → Int32), v68 = some a73 ∧ t58.2.2.2.2[j73]? = some (a73, .inl (k 0, n73, .inl f73)) ∧ vp_in (0 : Int32) n73 ∧ ∀ t73 : cS, t73 = sP t58 j73 (a73, .inl (k 0, n73, .inl (upd f73 (0 : Int32).toNatClampNeg x3))) → C_X0_init_b74 b k MC MS h Q x5 x6 y0 (nc + 1) (ns + (y0 + (Int32.ofNat n54)).toNatClampNeg) t73)
set_option maxHeartbeats 4000000 in
set_option maxRecDepth 100000 in
theorem cB_X0_init_47 {MC MS : Nat} {h : Nat} {Q : cS → Prop} (X : CallFix p m c cX0_init 10 s args wsX0_init RX0) (hr : meth.sig.returnType = none) (hlk : meth.locks = false) (hR : 1 ≤ R.frames ∧ 60 ≤ R.locals) (hK : cK dC dI k s) (hA : ∀ q, s.heap.size ≤ q → A q) (hRc : R.cells = MC ∧ R.slots = MS) (hin0 : meth.name = "<init>") (x3 : Int32) (x5 : Option Nat) (x6 : Option Nat) (y0 : Int32) (nc : Nat) (ns : Nat) (σ : cS) (H : Heap) (locs : List Loc) (ls : Array Slot) (hl : lv_has ls 10 [(0, .ref h), (3, .int x3), (5, va_rf x5), (6, va_rf x6)]) (hO : cO dC dI b k A s.heap σ H locs) (hc : (nc ≤ MC ∧ ns ≤ MS)) (hw : C_X0_init_b47 b k MC MS h Q x3 x5 x6 y0 nc ns σ) : W p l e R s m args below meth c H locs nc ns (MQ below (va_Qv Q (cAt dC dI A b k) A) args s MC MS A) (F0 m 47 ls [.int y0]) := by
  unfold C_X0_init_b47 at hw
  refine lv_istore (lv' := [(8, .int y0), (0, .ref h), (3, .int x3), (5, va_rf x5), (6, va_rf x6)]) X.1 X.2.1 dX0_init_47 hl (by decide) rfl (fun ls hl => ?_)
  refine lv_aload_n X.1 X.2.1 dX0_init_49 rfl (lv_at hl 1 rfl) ?_
  refine lv_iload X.1 X.2.1 dX0_init_50 (lv_at hl 0 rfl) ?_
  refine lv_aloadO X.1 X.2.1 dX0_init_52 (lv_at hl 3 rfl) ?_
  obtain ⟨n54, f54, g54, hw⟩ := hw
  refine clenA X.1 X.2.1 hK hO g54 dX0_init_54 ?_
  refine lv_iadd X.1 X.2.1 dX0_init_55 ?_
  obtain ⟨g56, k56, hc1, hc2, hw⟩ := hw
  have hc : nc + 1 ≤ MC ∧ ns + (y0 + (Int32.ofNat n54)).toNatClampNeg ≤ MS := ⟨hc1, hc2⟩
  refine cnewa X  hK hO hA g56 k56 (by rw [hRc.1]; exact hc.1) (by rw [hRc.2]; exact hc.2) dX0_init_56 (fun q56 H hO => ?_)
  obtain ⟨t56, e56⟩ : ∃ z, z = sN σ (q56, .inl (k 0, (y0 + (Int32.ofNat n54)).toNatClampNeg, .inl (fun _ => 0))) := ⟨_, rfl⟩
  have hw := hw q56 t56 e56
  rw [← e56] at hO
  obtain ⟨j58, f58, g58, k58, hw⟩ := hw
  refine cw_X0_supertypes (o := (some q56)) X fX0_X0_supertypes hK hO hin0 g58 k58 dX0_init_58 (fun H locs hO => ?_)
  obtain ⟨t58, e58⟩ : ∃ z, z = sP t56 j58 (h, .inr (0, f58.set 6 (va_rf (some q56)))) := ⟨_, rfl⟩
  have hw := hw t58 e58
  rw [← e58] at hO
  refine lv_iload X.1 X.2.1 dX0_init_61 (lv_at hl 0 rfl) ?_
  refine lv_iconst (v := 1) X.1 X.2.1 dX0_init_63 (by decide) ?_
  refine lv_icmp_ne (tgt := 74) X.1 X.2.1 dX0_init_64 rfl (fun hc9 => ?_) (fun hc9 => ?_)
  · have hw := hw.1 hc9
    exact cB_X0_init_74 X hr hlk hR hK hA hRc hin0 x5 x6 y0 (nc + 1) (ns + (y0 + (Int32.ofNat n54)).toNatClampNeg) t58 H locs ls (lv_sub hl [1, 3, 4, 0] rfl) hO hc hw
  · have hw := hw.2 hc9
    refine lv_aload_n X.1 X.2.1 dX0_init_67 rfl (lv_at hl 1 rfl) ?_
    obtain ⟨v68, g68, hw⟩ := hw
    refine cg_X0_supertypes X fX0_X0_supertypes hK hO g68 dX0_init_68 ?_
    refine lv_iconst (v := 0) X.1 X.2.1 dX0_init_71 (by decide) ?_
    refine lv_iload_n X.1 X.2.1 dX0_init_72 rfl (lv_at hl 2 rfl) ?_
    obtain ⟨a73, j73, n73, f73, g73, q73, k73, hw⟩ := hw
    refine ciastore X.1 X.2.1 hK hO g73 q73 k73 dX0_init_73 (fun H locs hO => ?_)
    obtain ⟨t73, e73⟩ : ∃ z, z = sP t58 j73 (a73, .inl (k 0, n73, .inl (upd f73 (0 : Int32).toNatClampNeg x3))) := ⟨_, rfl⟩
    have hw := hw t73 e73
    rw [← e73] at hO
    exact cB_X0_init_74 X hr hlk hR hK hA hRc hin0 x5 x6 y0 (nc + 1) (ns + (y0 + (Int32.ofNat n54)).toNatClampNeg) t73 H locs ls (lv_sub hl [1, 3, 4, 0] rfl) hO hc hw
def C_X0_init_b0 (b : Nat → Nat) (k : Nat → ClassId) (MC MS : Nat) (h : Nat) (Q : cS → Prop) (x1 : Int32) (x2 : Int32) (x3 : Int32) (x4 : Int32) (x5 : Option Nat) (x6 : Option Nat) (x7 : Option Nat) (nc : Nat) (ns : Nat) (σ : cS) : Prop :=
 ∃ (j6 : Nat) (f6 : List Value), σ.2.2.2.2[j6]? = some (h, .inr (0, f6)) ∧ 0 < f6.length ∧ ∀ t6 : cS, t6 = sP σ j6 (h, .inr (0, f6.set 0 (.int x1))) → ∃ (j11 : Nat) (f11 : List Value), t6.2.2.2.2[j11]? = some (h, .inr (0, f11)) ∧ 1 < f11.length ∧ ∀ t11 : cS, t11 = sP t6 j11 (h, .inr (0, f11.set 1 (.int x2))) → ∃ (j16 : Nat) (f16 : List Value), t11.2.2.2.2[j16]? = some (h, .inr (0, f16)) ∧ 2 < f16.length ∧ ∀ t16 : cS, t16 = sP t11 j16 (h, .inr (0, f16.set 2 (.int x3))) → ∃ (j22 : Nat) (f22 : List Value), t16.2.2.2.2[j22]? = some (h, .inr (0, f22)) ∧ 3 < f22.length ∧ ∀ t22 : cS, t22 = sP t16 j22 (h, .inr (0, f22.set 3 (.int x4))) → ∃ (j28 : Nat) (f28 : List Value), t22.2.2.2.2[j28]? = some (h, .inr (0, f28)) ∧ 4 < f28.length ∧ ∀ t28 : cS, t28 = sP t22 j28 (h, .inr (0, f28.set 4 (va_rf x6))) → ∃ (j34 : Nat) (f34 : List Value), t28.2.2.2.2[j34]? = some (h, .inr (0, f34)) ∧ 5 < f34.length ∧ ∀ t34 : cS, t34 = sP t28 j34 (h, .inr (0, f34.set 5 (va_rf x7))) → (¬ x3 = (-1 : Int32) → C_X0_init_b47 b k MC MS h Q x3 x5 x6 (1 : Int32) nc ns t34) ∧ (x3 = (-1 : Int32) → C_X0_init_b47 b k MC MS h Q x3 x5 x6 (0 : Int32) nc ns t34)
set_option maxHeartbeats 4000000 in
set_option maxRecDepth 100000 in
theorem cB_X0_init_0 {MC MS : Nat} {h : Nat} {Q : cS → Prop} (X : CallFix p m c cX0_init 10 s args wsX0_init RX0) (hr : meth.sig.returnType = none) (hlk : meth.locks = false) (hR : 1 ≤ R.frames ∧ 60 ≤ R.locals) (hK : cK dC dI k s) (hA : ∀ q, s.heap.size ≤ q → A q) (hRc : R.cells = MC ∧ R.slots = MS) (hin0 : meth.name = "<init>") (x1 : Int32) (x2 : Int32) (x3 : Int32) (x4 : Int32) (x5 : Option Nat) (x6 : Option Nat) (x7 : Option Nat) (nc : Nat) (ns : Nat) (σ : cS) (H : Heap) (locs : List Loc) (ls : Array Slot) (hl : lv_has ls 10 [(0, .ref h), (1, .int x1), (2, .int x2), (3, .int x3), (4, .int x4), (5, va_rf x5), (6, va_rf x6), (7, va_rf x7)]) (hO : cO dC dI b k A s.heap σ H locs) (hc : (nc ≤ MC ∧ ns ≤ MS)) (hw : C_X0_init_b0 b k MC MS h Q x1 x2 x3 x4 x5 x6 x7 nc ns σ) : W p l e R s m args below meth c H locs nc ns (MQ below (va_Qv Q (cAt dC dI A b k) A) args s MC MS A) (F0 m 0 ls []) := by
  unfold C_X0_init_b0 at hw
  refine lv_aload_n X.1 X.2.1 dX0_init_0 rfl (lv_at hl 0 rfl) ?_
  refine W.objInit X.1 X.2.1 X.2.2.2.1 (X.2.2.2.2 _ (List.mem_cons_of_mem _ oX0_link)) (X.2.2.2.2 _ (List.mem_cons_of_mem _ oInst)) (X.2.2.2.2 _ (List.mem_cons_of_mem _ oCode)) rfl (by rw [X.2.2.1]; exact hl.1) rfl dX0_init_1 (Nat.le_trans (by decide) hR.1) (Nat.le_trans (Nat.le_of_ble_eq_true rfl) hR.2) ?_
  refine W.eq (g2 := F0 m 4 ls []) rfl ?_
  refine lv_aload_n X.1 X.2.1 dX0_init_4 rfl (lv_at hl 0 rfl) ?_
  refine lv_iload_n X.1 X.2.1 dX0_init_5 rfl (lv_at hl 1 rfl) ?_
  obtain ⟨j6, f6, g6, k6, hw⟩ := hw
  refine cw_X0_name X fX0_X0_name hK hO hin0 g6 k6 dX0_init_6 (fun H locs hO => ?_)
  obtain ⟨t6, e6⟩ : ∃ z, z = sP σ j6 (h, .inr (0, f6.set 0 (.int x1))) := ⟨_, rfl⟩
  have hw := hw t6 e6
  rw [← e6] at hO
  refine lv_aload_n X.1 X.2.1 dX0_init_9 rfl (lv_at hl 0 rfl) ?_
  refine lv_iload_n X.1 X.2.1 dX0_init_10 rfl (lv_at hl 2 rfl) ?_
  obtain ⟨j11, f11, g11, k11, hw⟩ := hw
  refine cw_X0_flags X fX0_X0_flags hK hO hin0 g11 k11 dX0_init_11 (fun H locs hO => ?_)
  obtain ⟨t11, e11⟩ : ∃ z, z = sP t6 j11 (h, .inr (0, f11.set 1 (.int x2))) := ⟨_, rfl⟩
  have hw := hw t11 e11
  rw [← e11] at hO
  refine lv_aload_n X.1 X.2.1 dX0_init_14 rfl (lv_at hl 0 rfl) ?_
  refine lv_iload_n X.1 X.2.1 dX0_init_15 rfl (lv_at hl 3 rfl) ?_
  obtain ⟨j16, f16, g16, k16, hw⟩ := hw
  refine cw_X0_superName X fX0_X0_superName hK hO hin0 g16 k16 dX0_init_16 (fun H locs hO => ?_)
  obtain ⟨t16, e16⟩ : ∃ z, z = sP t11 j16 (h, .inr (0, f16.set 2 (.int x3))) := ⟨_, rfl⟩
  have hw := hw t16 e16
  rw [← e16] at hO
  refine lv_aload_n X.1 X.2.1 dX0_init_19 rfl (lv_at hl 0 rfl) ?_
  refine lv_iload X.1 X.2.1 dX0_init_20 (lv_at hl 4 rfl) ?_
  obtain ⟨j22, f22, g22, k22, hw⟩ := hw
  refine cw_X0_container X fX0_X0_container hK hO hin0 g22 k22 dX0_init_22 (fun H locs hO => ?_)
  obtain ⟨t22, e22⟩ : ∃ z, z = sP t16 j22 (h, .inr (0, f22.set 3 (.int x4))) := ⟨_, rfl⟩
  have hw := hw t22 e22
  rw [← e22] at hO
  refine lv_aload_n X.1 X.2.1 dX0_init_25 rfl (lv_at hl 0 rfl) ?_
  refine lv_aloadO X.1 X.2.1 dX0_init_26 (lv_at hl 6 rfl) ?_
  obtain ⟨j28, f28, g28, k28, hw⟩ := hw
  refine cw_X0_annotations (o := x6) X fX0_X0_annotations hK hO hin0 g28 k28 dX0_init_28 (fun H locs hO => ?_)
  obtain ⟨t28, e28⟩ : ∃ z, z = sP t22 j28 (h, .inr (0, f28.set 4 (va_rf x6))) := ⟨_, rfl⟩
  have hw := hw t28 e28
  rw [← e28] at hO
  refine lv_aload_n X.1 X.2.1 dX0_init_31 rfl (lv_at hl 0 rfl) ?_
  refine lv_aloadO X.1 X.2.1 dX0_init_32 (lv_at hl 7 rfl) ?_
  obtain ⟨j34, f34, g34, k34, hw⟩ := hw
  refine cw_X0_defaults (o := x7) X fX0_X0_defaults hK hO hin0 g34 k34 dX0_init_34 (fun H locs hO => ?_)
  obtain ⟨t34, e34⟩ : ∃ z, z = sP t28 j34 (h, .inr (0, f34.set 5 (va_rf x7))) := ⟨_, rfl⟩
  have hw := hw t34 e34
  rw [← e34] at hO
  refine lv_iload_n X.1 X.2.1 dX0_init_37 rfl (lv_at hl 3 rfl) ?_
  refine lv_iconst (v := -1) X.1 X.2.1 dX0_init_38 (by decide) ?_
  refine lv_icmp_ne (tgt := 46) X.1 X.2.1 dX0_init_39 rfl (fun hc9 => ?_) (fun hc9 => ?_)
  · have hw := hw.1 hc9
    refine lv_iconst (v := 1) X.1 X.2.1 dX0_init_46 (by decide) ?_
    exact cB_X0_init_47 X hr hlk hR hK hA hRc hin0 x3 x5 x6 (1 : Int32) nc ns t34 H locs ls (lv_sub hl [0, 3, 5, 6] rfl) hO hc hw
  · have hw := hw.2 hc9
    refine lv_iconst (v := 0) X.1 X.2.1 dX0_init_42 (by decide) ?_
    refine lv_goto (tgt := 47) X.1 X.2.1 dX0_init_43 rfl ?_
    exact cB_X0_init_47 X hr hlk hR hK hA hRc hin0 x3 x5 x6 (0 : Int32) nc ns t34 H locs ls (lv_sub hl [0, 3, 5, 6] rfl) hO hc hw
def C_X0_init_w (b : Nat → Nat) (k : Nat → ClassId) (MC MS : Nat) (h : Nat) (Q : cS → Prop) (x1 : Int32) (x2 : Int32) (x3 : Int32) (x4 : Int32) (x5 : Option Nat) (x6 : Option Nat) (x7 : Option Nat) (σ : cS) : Prop := C_X0_init_b0 b k MC MS h Q x1 x2 x3 x4 x5 x6 x7 0 0 σ
abbrev rmX0_init (MC MS : Nat) : Room := { frames := 1, cells := MC, slots := MS, locals := 60 }
set_option maxHeartbeats 4000000 in
set_option maxRecDepth 100000 in
theorem cC_X0_init (l : Launch) (dC : Nat → ClassId) (dI : Nat → Nat → Nat) (b : Nat → Nat) (k : Nat → ClassId) (σ : cS) (sz : Nat) (MC MS : Nat) (h : Nat) (x1 : Int32) (x2 : Int32) (x3 : Int32) (x4 : Int32) (x5 : Option Nat) (x6 : Option Nat) (x7 : Option Nat) (Q : cS → Prop) (hw : C_X0_init_w b k MC MS h Q x1 x2 x3 x4 x5 x6 x7 σ) : Met l yX0_init wsX0_init (rmX0_init MC MS) (cPc dC dI b k sz σ [.ref h, .int x1, .int x2, .int x3, .int x4, va_rf x5, va_rf x6, va_rf x7]) (va_Qv Q (cAt dC dI (va_A (cCells b k σ) sz) b k) (va_A (cCells b k σ) sz)) MC MS (va_A (cCells b k σ) sz) := by
  refine Met.ofW (cc := cX0_init) (maxL := 10) (ret := none) (by decide) rfl ?_
  intro p e s m args below meth c s₁ B hml hv
  obtain ⟨hargs, hsz, hP, hK, hD0⟩ := hv
  have hts := atoms_spec (ws := wsX0_init) B.pre
  have hown : s.vm.findClass RX0 = some m.cls := findClass_of_methodNamed B.named
  subst hsz
  subst hargs
  have hD := hD0.self (sz := s.heap.size)
  generalize hAe : va_A (cCells b k σ) s.heap.size = A at hD ⊢
  have hA : ∀ q : Nat, s.heap.size ≤ q → A q := fun q h => by rw [← hAe]; exact Or.inr h
  have hl := lv_entry ([.ref h, .int x1, .int x2, .int x3, .int x4, va_rf x5, va_rf x6, va_rf x7]) (n := 10) (by cases x5 <;> cases x6 <;> cases x7 <;> exact Nat.le_of_ble_eq_true rfl)
  rw [lg_entry_eq]
  generalize (lg_sl ([.ref h, .int x1, .int x2, .int x3, .int x4, va_rf x5, va_rf x6, va_rf x7]) ++ List.replicate (10 - (lg_sl ([.ref h, .int x1, .int x2, .int x3, .int x4, va_rf x5, va_rf x6, va_rf x7])).length) Slot.unset).toArray = ls at hl ⊢
  have e9 : lv_args 0 ([.ref h, .int x1, .int x2, .int x3, .int x4, va_rf x5, va_rf x6, va_rf x7]) = [(0, .ref h), (1, .int x1), (2, .int x2), (3, .int x3), (4, .int x4), (5, va_rf x5), (6, va_rf x6), (7, va_rf x7)] := by cases x5 <;> cases x6 <;> cases x7 <;> rfl
  have hl : lv_has ls 10 [(0, .ref h), (1, .int x1), (2, .int x2), (3, .int x3), (4, .int x4), (5, va_rf x5), (6, va_rf x6), (7, va_rf x7)] := by rw [← e9]; exact hl
  unfold C_X0_init_w at hw
  exact cB_X0_init_0 ⟨B.exec, B.bytes, hml, hown, hts⟩ B.returns B.notSynchronized ⟨Nat.le_of_ble_eq_true rfl, Nat.le_of_ble_eq_true rfl⟩ hK hA ⟨rfl, rfl⟩ (name_of_methodNamed B.named B.method).1 x1 x2 x3 x4 x5 x6 x7 0 0 σ s.heap [] ls (lv_sub hl [0, 1, 2, 3, 4, 5, 6, 7] rfl) ⟨hP, hD, va_S.rf⟩ ⟨Nat.zero_le _, Nat.zero_le _⟩ hw
def C_X0_directTypes_b15 (b : Nat → Nat) (k : Nat → ClassId) (h : Nat) (Q : Option Nat → cS → Prop) (y0 : Option Nat) (σ : cS) : Prop :=
 Q y0 σ
set_option maxHeartbeats 4000000 in
set_option maxRecDepth 100000 in
theorem cB_X0_directTypes_15 {h : Nat} {Q : Option Nat → cS → Prop} (X : CallFix p m c cX0_directTypes 2 s args wsX0_directTypes RX0) (hr : meth.sig.returnType = (some (.array .int))) (hlk : meth.locks = false) (hR : 0 ≤ R.frames ∧ 0 ≤ R.locals) (hK : cK dC dI k s) (hA : ∀ q, s.heap.size ≤ q → A q) (y0 : Option Nat) (σ : cS) (H : Heap) (locs : List Loc) (ls : Array Slot) (hl : lv_has ls 2 [(0, .ref h)]) (hO : cO dC dI b k A s.heap σ H locs) (hw : C_X0_directTypes_b15 b k h Q y0 σ) : W p l e R s m args below meth c H locs 0 0 (MQ below (va_Qq Q (cAt dC dI A b k) A) args s 0 0 A) (F0 m 15 ls [va_rf y0]) := by
  unfold C_X0_directTypes_b15 at hw
  exact W.aret (v := va_rf y0) X.1 X.2.1 hr (Or.inr ⟨_, rfl⟩) (va_rf_or _) (fun t ht hW => ⟨⟨y0, σ, rfl, hw, cO_end hO hK ht hW⟩, hO.2.2.F ht⟩) hO.2.2.2.2 dX0_directTypes_15 hlk
def C_X0_directTypes_b0 (b : Nat → Nat) (k : Nat → ClassId) (h : Nat) (Q : Option Nat → cS → Prop) (x1 : Int32) (σ : cS) : Prop :=
 (x1 = 0 → ∃ v12 : Option Nat, pR σ.2.2.2.2 (some h) 0 6 v12 ∧ C_X0_directTypes_b15 b k h Q v12 σ) ∧ (¬ x1 = 0 → ∃ v5 : Option Nat, pR σ.2.2.2.2 (some h) 0 7 v5 ∧ C_X0_directTypes_b15 b k h Q v5 σ)
set_option maxHeartbeats 4000000 in
set_option maxRecDepth 100000 in
theorem cB_X0_directTypes_0 {h : Nat} {Q : Option Nat → cS → Prop} (X : CallFix p m c cX0_directTypes 2 s args wsX0_directTypes RX0) (hr : meth.sig.returnType = (some (.array .int))) (hlk : meth.locks = false) (hR : 0 ≤ R.frames ∧ 0 ≤ R.locals) (hK : cK dC dI k s) (hA : ∀ q, s.heap.size ≤ q → A q) (x1 : Int32) (σ : cS) (H : Heap) (locs : List Loc) (ls : Array Slot) (hl : lv_has ls 2 [(0, .ref h), (1, .int x1)]) (hO : cO dC dI b k A s.heap σ H locs) (hw : C_X0_directTypes_b0 b k h Q x1 σ) : W p l e R s m args below meth c H locs 0 0 (MQ below (va_Qq Q (cAt dC dI A b k) A) args s 0 0 A) (F0 m 0 ls []) := by
  unfold C_X0_directTypes_b0 at hw
  refine lv_iload_n X.1 X.2.1 dX0_directTypes_0 rfl (lv_at hl 1 rfl) ?_
  refine lv_if_eq (tgt := 11) X.1 X.2.1 dX0_directTypes_1 rfl (fun hc9 => ?_) (fun hc9 => ?_)
  · have hw := hw.1 hc9
    refine lv_aload_n X.1 X.2.1 dX0_directTypes_11 rfl (lv_at hl 0 rfl) ?_
    obtain ⟨v12, g12, hw⟩ := hw
    refine cg_X0_supertypes X fX0_X0_supertypes hK hO g12 dX0_directTypes_12 ?_
    exact cB_X0_directTypes_15 X hr hlk hR hK hA v12 σ H locs ls (lv_sub hl [0] rfl) hO hw
  · have hw := hw.2 hc9
    refine lv_aload_n X.1 X.2.1 dX0_directTypes_4 rfl (lv_at hl 0 rfl) ?_
    obtain ⟨v5, g5, hw⟩ := hw
    refine cg_X0_annotationTypes X fX0_X0_annotationTypes hK hO g5 dX0_directTypes_5 ?_
    refine lv_goto (tgt := 15) X.1 X.2.1 dX0_directTypes_8 rfl ?_
    exact cB_X0_directTypes_15 X hr hlk hR hK hA v5 σ H locs ls (lv_sub hl [0] rfl) hO hw
def C_X0_directTypes_w (b : Nat → Nat) (k : Nat → ClassId) (h : Nat) (Q : Option Nat → cS → Prop) (x1 : Int32) (σ : cS) : Prop := C_X0_directTypes_b0 b k h Q x1 σ
abbrev rmX0_directTypes : Room := { frames := 0, cells := 0, slots := 0, locals := 0 }
set_option maxHeartbeats 4000000 in
set_option maxRecDepth 100000 in
theorem cC_X0_directTypes (l : Launch) (dC : Nat → ClassId) (dI : Nat → Nat → Nat) (b : Nat → Nat) (k : Nat → ClassId) (σ : cS) (sz : Nat) (h : Nat) (x1 : Int32) (Q : Option Nat → cS → Prop) (hw : C_X0_directTypes_w b k h Q x1 σ) : Met l yX0_directTypes wsX0_directTypes rmX0_directTypes (cPc dC dI b k sz σ [.ref h, .int x1]) (va_Qq Q (cAt dC dI (va_A (cCells b k σ) sz) b k) (va_A (cCells b k σ) sz)) 0 0 (va_A (cCells b k σ) sz) := by
  refine Met.ofW (cc := cX0_directTypes) (maxL := 2) (ret := (some (.array .int))) (by decide) rfl ?_
  intro p e s m args below meth c s₁ B hml hv
  obtain ⟨hargs, hsz, hP, hK, hD0⟩ := hv
  have hts := atoms_spec (ws := wsX0_directTypes) B.pre
  have hown : s.vm.findClass RX0 = some m.cls := findClass_of_methodNamed B.named
  subst hsz
  subst hargs
  have hD := hD0.self (sz := s.heap.size)
  generalize hAe : va_A (cCells b k σ) s.heap.size = A at hD ⊢
  have hA : ∀ q : Nat, s.heap.size ≤ q → A q := fun q h => by rw [← hAe]; exact Or.inr h
  have hl := lv_entry ([.ref h, .int x1]) (n := 2) (Nat.le_of_ble_eq_true rfl)
  rw [lg_entry_eq]
  generalize (lg_sl ([.ref h, .int x1]) ++ List.replicate (2 - (lg_sl ([.ref h, .int x1])).length) Slot.unset).toArray = ls at hl ⊢
  have hl : lv_has ls 2 [(0, .ref h), (1, .int x1)] := hl
  unfold C_X0_directTypes_w at hw
  exact cB_X0_directTypes_0 ⟨B.exec, B.bytes, hml, hown, hts⟩ B.returns B.notSynchronized ⟨Nat.le_of_ble_eq_true rfl, Nat.le_of_ble_eq_true rfl⟩ hK hA x1 σ s.heap [] ls (lv_sub hl [0, 1] rfl) ⟨hP, hD, va_S.rf⟩ hw
def C_X5_isAnnotationOf_b21 (b : Nat → Nat) (k : Nat → ClassId) (h : Nat) (Q : Int32 → cS → Prop) (y0 : Int32) (σ : cS) : Prop :=
 zb y0 ∧ Q y0 σ
set_option maxHeartbeats 4000000 in
set_option maxRecDepth 100000 in
theorem cB_X5_isAnnotationOf_21 {h : Nat} {Q : Int32 → cS → Prop} (X : CallFix p m c cX5_isAnnotationOf 2 s args wsX5_isAnnotationOf RX5) (hr : meth.sig.returnType = (some .boolean)) (hlk : meth.locks = false) (hR : 0 ≤ R.frames ∧ 0 ≤ R.locals) (hK : cK dC dI k s) (hA : ∀ q, s.heap.size ≤ q → A q) (y0 : Int32) (σ : cS) (H : Heap) (locs : List Loc) (ls : Array Slot) (hl : lv_has ls 2 [(0, .ref h)]) (hO : cO dC dI b k A s.heap σ H locs) (hw : C_X5_isAnnotationOf_b21 b k h Q y0 σ) : W p l e R s m args below meth c H locs 0 0 (MQ below (va_Qi Q (cAt dC dI A b k) A) args s 0 0 A) (F0 m 21 ls [.int y0]) := by
  unfold C_X5_isAnnotationOf_b21 at hw
  obtain ⟨hz, hw⟩ := hw
  exact W.zret (v := y0) X.1 X.2.1 hr hz (fun t ht hW => ⟨⟨y0, σ, rfl, hw, cO_end hO hK ht hW⟩, hO.2.2.F ht⟩) hO.2.2.2.2 dX5_isAnnotationOf_21 hlk
def C_X5_isAnnotationOf_b20 (b : Nat → Nat) (k : Nat → ClassId) (h : Nat) (Q : Int32 → cS → Prop) (σ : cS) : Prop :=
 C_X5_isAnnotationOf_b21 b k h Q (0 : Int32) σ
set_option maxHeartbeats 4000000 in
set_option maxRecDepth 100000 in
theorem cB_X5_isAnnotationOf_20 {h : Nat} {Q : Int32 → cS → Prop} (X : CallFix p m c cX5_isAnnotationOf 2 s args wsX5_isAnnotationOf RX5) (hr : meth.sig.returnType = (some .boolean)) (hlk : meth.locks = false) (hR : 0 ≤ R.frames ∧ 0 ≤ R.locals) (hK : cK dC dI k s) (hA : ∀ q, s.heap.size ≤ q → A q) (σ : cS) (H : Heap) (locs : List Loc) (ls : Array Slot) (hl : lv_has ls 2 [(0, .ref h)]) (hO : cO dC dI b k A s.heap σ H locs) (hw : C_X5_isAnnotationOf_b20 b k h Q σ) : W p l e R s m args below meth c H locs 0 0 (MQ below (va_Qi Q (cAt dC dI A b k) A) args s 0 0 A) (F0 m 20 ls []) := by
  unfold C_X5_isAnnotationOf_b20 at hw
  refine lv_iconst (v := 0) X.1 X.2.1 dX5_isAnnotationOf_20 (by decide) ?_
  exact cB_X5_isAnnotationOf_21 X hr hlk hR hK hA (0 : Int32) σ H locs ls (lv_sub hl [0] rfl) hO hw
def C_X5_isAnnotationOf_b0 (b : Nat → Nat) (k : Nat → ClassId) (h : Nat) (Q : Int32 → cS → Prop) (x1 : Int32) (σ : cS) : Prop :=
 ∃ v1 : Int32, pI σ.2.2.2.2 (some h) 5 0 v1 ∧ (¬ v1 = (5 : Int32) → C_X5_isAnnotationOf_b20 b k h Q σ) ∧ (v1 = (5 : Int32) → ∃ v9 : Int32, pI σ.2.2.2.2 (some h) 5 1 v9 ∧ (¬ v9 = x1 → C_X5_isAnnotationOf_b20 b k h Q σ) ∧ (v9 = x1 → C_X5_isAnnotationOf_b21 b k h Q (1 : Int32) σ))
set_option maxHeartbeats 4000000 in
set_option maxRecDepth 100000 in
theorem cB_X5_isAnnotationOf_0 {h : Nat} {Q : Int32 → cS → Prop} (X : CallFix p m c cX5_isAnnotationOf 2 s args wsX5_isAnnotationOf RX5) (hr : meth.sig.returnType = (some .boolean)) (hlk : meth.locks = false) (hR : 0 ≤ R.frames ∧ 0 ≤ R.locals) (hK : cK dC dI k s) (hA : ∀ q, s.heap.size ≤ q → A q) (x1 : Int32) (σ : cS) (H : Heap) (locs : List Loc) (ls : Array Slot) (hl : lv_has ls 2 [(0, .ref h), (1, .int x1)]) (hO : cO dC dI b k A s.heap σ H locs) (hw : C_X5_isAnnotationOf_b0 b k h Q x1 σ) : W p l e R s m args below meth c H locs 0 0 (MQ below (va_Qi Q (cAt dC dI A b k) A) args s 0 0 A) (F0 m 0 ls []) := by
  unfold C_X5_isAnnotationOf_b0 at hw
  refine lv_aload_n X.1 X.2.1 dX5_isAnnotationOf_0 rfl (lv_at hl 0 rfl) ?_
  obtain ⟨v1, g1, hw⟩ := hw
  refine cg_X5_kind X fX5_X5_kind hK hO g1 dX5_isAnnotationOf_1 ?_
  refine lv_iconst (v := 5) X.1 X.2.1 dX5_isAnnotationOf_4 (by decide) ?_
  refine lv_icmp_ne (tgt := 20) X.1 X.2.1 dX5_isAnnotationOf_5 rfl (fun hc9 => ?_) (fun hc9 => ?_)
  · have hw := hw.1 hc9
    exact cB_X5_isAnnotationOf_20 X hr hlk hR hK hA σ H locs ls (lv_sub hl [0] rfl) hO hw
  · have hw := hw.2 hc9
    refine lv_aload_n X.1 X.2.1 dX5_isAnnotationOf_8 rfl (lv_at hl 0 rfl) ?_
    obtain ⟨v9, g9, hw⟩ := hw
    refine cg_X5_number X fX5_X5_number hK hO g9 dX5_isAnnotationOf_9 ?_
    refine lv_iload_n X.1 X.2.1 dX5_isAnnotationOf_12 rfl (lv_at hl 1 rfl) ?_
    refine lv_icmp_ne (tgt := 20) X.1 X.2.1 dX5_isAnnotationOf_13 rfl (fun hc9 => ?_) (fun hc9 => ?_)
    · have hw := hw.1 hc9
      exact cB_X5_isAnnotationOf_20 X hr hlk hR hK hA σ H locs ls (lv_sub hl [0] rfl) hO hw
    · have hw := hw.2 hc9
      refine lv_iconst (v := 1) X.1 X.2.1 dX5_isAnnotationOf_16 (by decide) ?_
      refine lv_goto (tgt := 21) X.1 X.2.1 dX5_isAnnotationOf_17 rfl ?_
      exact cB_X5_isAnnotationOf_21 X hr hlk hR hK hA (1 : Int32) σ H locs ls (lv_sub hl [0] rfl) hO hw
def C_X5_isAnnotationOf_w (b : Nat → Nat) (k : Nat → ClassId) (h : Nat) (Q : Int32 → cS → Prop) (x1 : Int32) (σ : cS) : Prop := C_X5_isAnnotationOf_b0 b k h Q x1 σ
abbrev rmX5_isAnnotationOf : Room := { frames := 0, cells := 0, slots := 0, locals := 0 }
set_option maxHeartbeats 4000000 in
set_option maxRecDepth 100000 in
theorem cC_X5_isAnnotationOf (l : Launch) (dC : Nat → ClassId) (dI : Nat → Nat → Nat) (b : Nat → Nat) (k : Nat → ClassId) (σ : cS) (sz : Nat) (h : Nat) (x1 : Int32) (Q : Int32 → cS → Prop) (hw : C_X5_isAnnotationOf_w b k h Q x1 σ) : Met l yX5_isAnnotationOf wsX5_isAnnotationOf rmX5_isAnnotationOf (cPc dC dI b k sz σ [.ref h, .int x1]) (va_Qi Q (cAt dC dI (va_A (cCells b k σ) sz) b k) (va_A (cCells b k σ) sz)) 0 0 (va_A (cCells b k σ) sz) := by
  refine Met.ofW (cc := cX5_isAnnotationOf) (maxL := 2) (ret := (some .boolean)) (by decide) rfl ?_
  intro p e s m args below meth c s₁ B hml hv
  obtain ⟨hargs, hsz, hP, hK, hD0⟩ := hv
  have hts := atoms_spec (ws := wsX5_isAnnotationOf) B.pre
  have hown : s.vm.findClass RX5 = some m.cls := findClass_of_methodNamed B.named
  subst hsz
  subst hargs
  have hD := hD0.self (sz := s.heap.size)
  generalize hAe : va_A (cCells b k σ) s.heap.size = A at hD ⊢
  have hA : ∀ q : Nat, s.heap.size ≤ q → A q := fun q h => by rw [← hAe]; exact Or.inr h
  have hl := lv_entry ([.ref h, .int x1]) (n := 2) (Nat.le_of_ble_eq_true rfl)
  rw [lg_entry_eq]
  generalize (lg_sl ([.ref h, .int x1]) ++ List.replicate (2 - (lg_sl ([.ref h, .int x1])).length) Slot.unset).toArray = ls at hl ⊢
  have hl : lv_has ls 2 [(0, .ref h), (1, .int x1)] := hl
  unfold C_X5_isAnnotationOf_w at hw
  exact cB_X5_isAnnotationOf_0 ⟨B.exec, B.bytes, hml, hown, hts⟩ B.returns B.notSynchronized ⟨Nat.le_of_ble_eq_true rfl, Nat.le_of_ble_eq_true rfl⟩ hK hA x1 σ s.heap [] ls (lv_sub hl [0, 1] rfl) ⟨hP, hD, va_S.rf⟩ hw
def C_X0_firstAnnotation_b2_s (b : Nat → Nat) (k : Nat → ClassId) (h : Nat) (Q : Option Nat → cS → Prop) (K2 : Int32 → Int32 → cS → Prop) (x1 : Int32) (x2 : Int32) (σ : cS) : Prop :=
 ∃ v4 : Option Nat, pR σ.2.2.2.2 (some h) 0 4 v4 ∧ ∃ (n7 : Nat) (f7 : Nat → Option Nat), pQ σ.2.2.2.2 v4 (k 3) n7 f7 ∧ ((Int32.ofNat n7) ≤ x2 → Q none σ) ∧ (¬ (Int32.ofNat n7) ≤ x2 → ∃ v12 : Option Nat, pR σ.2.2.2.2 (some h) 0 4 v12 ∧ ∃ (n16 : Nat) (f16 : Nat → Option Nat), pQ σ.2.2.2.2 v12 (k 3) n16 f16 ∧ vp_in x2 n16 ∧ ∃ a18 : Nat, pX σ.2.2.2.2 (f16 x2.toNatClampNeg) 5 a18 ∧ C_X5_isAnnotationOf_w b k a18 (fun r18 t18 => (r18 = 0 → ∀ v31 : Int32, v31 = x2 + (1 : Int32) → K2 x1 v31 t18) ∧ (¬ r18 = 0 → ∃ v25 : Option Nat, pR t18.2.2.2.2 (some h) 0 4 v25 ∧ ∃ (n29 : Nat) (f29 : Nat → Option Nat), pQ t18.2.2.2.2 v25 (k 3) n29 f29 ∧ vp_in x2 n29 ∧ Q (f29 x2.toNatClampNeg) t18)) x1 σ)
def C_X0_firstAnnotation_b2_f (b : Nat → Nat) (k : Nat → ClassId) (h : Nat) (Q : Option Nat → cS → Prop) : (Int32 × Int32 × cS → Prop) → Int32 × Int32 × cS → Prop :=
 fun K z => C_X0_firstAnnotation_b2_s b k h Q (fun x1 x2 σ => K (x1, x2, σ)) z.1 z.2.1 z.2.2
def C_X0_firstAnnotation_b2 (b : Nat → Nat) (k : Nat → ClassId) (h : Nat) (Q : Option Nat → cS → Prop) (x1 : Int32) (x2 : Int32) (σ : cS) : Prop := ∃ n, fx (C_X0_firstAnnotation_b2_f b k h Q ) n (x1, x2, σ)
set_option maxHeartbeats 4000000 in
set_option maxRecDepth 100000 in
theorem cB_X0_firstAnnotation_2 {h : Nat} {Q : Option Nat → cS → Prop} (X : CallFix p m c cX0_firstAnnotation 3 s args wsX0_firstAnnotation RX0) (hr : meth.sig.returnType = (some (.object "ClassFileIndex$Value"))) (hlk : meth.locks = false) (hR : 1 ≤ R.frames ∧ 21 ≤ R.locals) (hK : cK dC dI k s) (hA : ∀ q, s.heap.size ≤ q → A q) : ∀ (n : Nat) (x1 : Int32) (x2 : Int32) (σ : cS) (H : Heap) (locs : List Loc) (ls : Array Slot), lv_has ls 3 [(0, .ref h), (1, .int x1), (2, .int x2)] → cO dC dI b k A s.heap σ H locs → fx (C_X0_firstAnnotation_b2_f b k h Q ) n (x1, x2, σ) → W p l e R s m args below meth c H locs 0 0 (MQ below (va_Qq Q (cAt dC dI A b k) A) args s 0 0 A) (F0 m 2 ls []) := by
  intro n
  induction n with
  | zero => intro x1 x2 σ H locs ls hl hO hw; exact False.elim hw
  | succ n k2 =>
    intro x1 x2 σ H locs ls hl hO hw
    have hw : C_X0_firstAnnotation_b2_s b k h Q (fun x1 x2 σ => fx (C_X0_firstAnnotation_b2_f b k h Q ) n (x1, x2, σ)) x1 x2 σ := hw
    unfold C_X0_firstAnnotation_b2_s at hw
    refine lv_iload_n X.1 X.2.1 dX0_firstAnnotation_2 rfl (lv_at hl 2 rfl) ?_
    refine lv_aload_n X.1 X.2.1 dX0_firstAnnotation_3 rfl (lv_at hl 0 rfl) ?_
    obtain ⟨v4, g4, hw⟩ := hw
    refine cg_X0_annotations X fX0_X0_annotations hK hO g4 dX0_firstAnnotation_4 ?_
    obtain ⟨n7, f7, g7, hw⟩ := hw
    refine clenQ X.1 X.2.1 hK hO g7 dX0_firstAnnotation_7 ?_
    refine lv_icmp_ge (tgt := 37) X.1 X.2.1 dX0_firstAnnotation_8 rfl (fun hc9 => ?_) (fun hc9 => ?_)
    · have hw := hw.1 hc9
      refine lv_null X.1 X.2.1 dX0_firstAnnotation_37 ?_
      exact W.aret (v := va_rf none) X.1 X.2.1 hr (Or.inl ⟨_, rfl⟩) (va_rf_or _) (fun t ht hW => ⟨⟨none, σ, rfl, hw, cO_end hO hK ht hW⟩, hO.2.2.F ht⟩) hO.2.2.2.2 dX0_firstAnnotation_38 hlk
    · have hw := hw.2 hc9
      refine lv_aload_n X.1 X.2.1 dX0_firstAnnotation_11 rfl (lv_at hl 0 rfl) ?_
      obtain ⟨v12, g12, hw⟩ := hw
      refine cg_X0_annotations X fX0_X0_annotations hK hO g12 dX0_firstAnnotation_12 ?_
      refine lv_iload_n X.1 X.2.1 dX0_firstAnnotation_15 rfl (lv_at hl 2 rfl) ?_
      obtain ⟨n16, f16, g16, k16, hw⟩ := hw
      refine caaload X.1 X.2.1 hK hO g16 k16 dX0_firstAnnotation_16 ?_
      refine lv_iload_n X.1 X.2.1 dX0_firstAnnotation_17 rfl (lv_at hl 1 rfl) ?_
      obtain ⟨a18, z18, hw⟩ := hw
      refine c_calliO (rest := []) (As := [.int x1]) X (cC_X5_isAnnotationOf l dC dI b k σ H.size a18 x1 _ hw) (cwV 1 X.2.2.2.2 gX0_X5_isAnnotationOf rfl rfl rfl hdX5_isAnnotationOf ⟨Nat.le_trans (show 0 + 1 ≤ 1 by decide) hR.1, Nat.le_trans (show 8 + (2 + 11) + 0 ≤ 21 by decide) hR.2⟩) (cRecvP hK hO z18 rfl) z18.1 hK hA hO rfl hl.1 rfl (Nat.le_of_ble_eq_true rfl) dX0_firstAnnotation_18 (Nat.zero_le _) (Nat.zero_le _) (fun r18 t18 H locs hO hw => ?_)
      refine lv_if_eq (tgt := 31) X.1 X.2.1 dX0_firstAnnotation_21 rfl (fun hc9 => ?_) (fun hc9 => ?_)
      · have hw := hw.1 hc9
        obtain ⟨v31, e31⟩ : ∃ z, z = x2 + (1 : Int32) := ⟨_, rfl⟩
        have hw := hw v31 e31
        refine lv_iinc (lv' := [(2, .int v31), (0, .ref h), (1, .int x1)]) (k := 2) (v := v31) X.1 X.2.1 dX0_firstAnnotation_31 hl rfl (by rw [e31]; rfl) (by decide) rfl (fun ls hl => ?_)
        refine lv_goto (tgt := 2) X.1 X.2.1 dX0_firstAnnotation_34 rfl ?_
        exact k2 x1 v31 t18 H locs ls (lv_sub hl [1, 2, 0] rfl) hO hw
      · have hw := hw.2 hc9
        refine lv_aload_n X.1 X.2.1 dX0_firstAnnotation_24 rfl (lv_at hl 0 rfl) ?_
        obtain ⟨v25, g25, hw⟩ := hw
        refine cg_X0_annotations X fX0_X0_annotations hK hO g25 dX0_firstAnnotation_25 ?_
        refine lv_iload_n X.1 X.2.1 dX0_firstAnnotation_28 rfl (lv_at hl 2 rfl) ?_
        obtain ⟨n29, f29, g29, k29, hw⟩ := hw
        refine caaload X.1 X.2.1 hK hO g29 k29 dX0_firstAnnotation_29 ?_
        exact W.aret (v := va_rf (f29 x2.toNatClampNeg)) X.1 X.2.1 hr (Or.inl ⟨_, rfl⟩) (va_rf_or _) (fun t ht hW => ⟨⟨(f29 x2.toNatClampNeg), t18, rfl, hw, cO_end hO hK ht hW⟩, hO.2.2.F ht⟩) hO.2.2.2.2 dX0_firstAnnotation_30 hlk
def C_X0_firstAnnotation_b0 (b : Nat → Nat) (k : Nat → ClassId) (h : Nat) (Q : Option Nat → cS → Prop) (x1 : Int32) (σ : cS) : Prop :=
 C_X0_firstAnnotation_b2 b k h Q x1 (0 : Int32) σ
set_option maxHeartbeats 4000000 in
set_option maxRecDepth 100000 in
theorem cB_X0_firstAnnotation_0 {h : Nat} {Q : Option Nat → cS → Prop} (X : CallFix p m c cX0_firstAnnotation 3 s args wsX0_firstAnnotation RX0) (hr : meth.sig.returnType = (some (.object "ClassFileIndex$Value"))) (hlk : meth.locks = false) (hR : 1 ≤ R.frames ∧ 21 ≤ R.locals) (hK : cK dC dI k s) (hA : ∀ q, s.heap.size ≤ q → A q) (x1 : Int32) (σ : cS) (H : Heap) (locs : List Loc) (ls : Array Slot) (hl : lv_has ls 3 [(0, .ref h), (1, .int x1)]) (hO : cO dC dI b k A s.heap σ H locs) (hw : C_X0_firstAnnotation_b0 b k h Q x1 σ) : W p l e R s m args below meth c H locs 0 0 (MQ below (va_Qq Q (cAt dC dI A b k) A) args s 0 0 A) (F0 m 0 ls []) := by
  unfold C_X0_firstAnnotation_b0 at hw
  refine lv_iconst (v := 0) X.1 X.2.1 dX0_firstAnnotation_0 (by decide) ?_
  refine lv_istore_n (lv' := [(2, .int (0 : Int32)), (0, .ref h), (1, .int x1)]) X.1 X.2.1 dX0_firstAnnotation_1 rfl hl (by decide) rfl (fun ls hl => ?_)
  obtain ⟨n, hw⟩ := hw
  exact cB_X0_firstAnnotation_2 X hr hlk hR hK hA n x1 (0 : Int32) σ H locs ls (lv_sub hl [1, 2, 0] rfl) hO hw
def C_X0_firstAnnotation_w (b : Nat → Nat) (k : Nat → ClassId) (h : Nat) (Q : Option Nat → cS → Prop) (x1 : Int32) (σ : cS) : Prop := C_X0_firstAnnotation_b0 b k h Q x1 σ
abbrev rmX0_firstAnnotation : Room := { frames := 1, cells := 0, slots := 0, locals := 21 }
set_option maxHeartbeats 4000000 in
set_option maxRecDepth 100000 in
theorem cC_X0_firstAnnotation (l : Launch) (dC : Nat → ClassId) (dI : Nat → Nat → Nat) (b : Nat → Nat) (k : Nat → ClassId) (σ : cS) (sz : Nat) (h : Nat) (x1 : Int32) (Q : Option Nat → cS → Prop) (hw : C_X0_firstAnnotation_w b k h Q x1 σ) : Met l yX0_firstAnnotation wsX0_firstAnnotation rmX0_firstAnnotation (cPc dC dI b k sz σ [.ref h, .int x1]) (va_Qq Q (cAt dC dI (va_A (cCells b k σ) sz) b k) (va_A (cCells b k σ) sz)) 0 0 (va_A (cCells b k σ) sz) := by
  refine Met.ofW (cc := cX0_firstAnnotation) (maxL := 3) (ret := (some (.object "ClassFileIndex$Value"))) (by decide) rfl ?_
  intro p e s m args below meth c s₁ B hml hv
  obtain ⟨hargs, hsz, hP, hK, hD0⟩ := hv
  have hts := atoms_spec (ws := wsX0_firstAnnotation) B.pre
  have hown : s.vm.findClass RX0 = some m.cls := findClass_of_methodNamed B.named
  subst hsz
  subst hargs
  have hD := hD0.self (sz := s.heap.size)
  generalize hAe : va_A (cCells b k σ) s.heap.size = A at hD ⊢
  have hA : ∀ q : Nat, s.heap.size ≤ q → A q := fun q h => by rw [← hAe]; exact Or.inr h
  have hl := lv_entry ([.ref h, .int x1]) (n := 3) (Nat.le_of_ble_eq_true rfl)
  rw [lg_entry_eq]
  generalize (lg_sl ([.ref h, .int x1]) ++ List.replicate (3 - (lg_sl ([.ref h, .int x1])).length) Slot.unset).toArray = ls at hl ⊢
  have hl : lv_has ls 3 [(0, .ref h), (1, .int x1)] := hl
  unfold C_X0_firstAnnotation_w at hw
  exact cB_X0_firstAnnotation_0 ⟨B.exec, B.bytes, hml, hown, hts⟩ B.returns B.notSynchronized ⟨Nat.le_of_ble_eq_true rfl, Nat.le_of_ble_eq_true rfl⟩ hK hA x1 σ s.heap [] ls (lv_sub hl [0, 1] rfl) ⟨hP, hD, va_S.rf⟩ hw
def C_X2_nth_b26 (b : Nat → Nat) (k : Nat → ClassId) (h : Nat) (Q : Option Nat → cS → Prop) (y0 : Option Nat) (σ : cS) : Prop :=
 Q y0 σ
set_option maxHeartbeats 4000000 in
set_option maxRecDepth 100000 in
theorem cB_X2_nth_26 {h : Nat} {Q : Option Nat → cS → Prop} (X : CallFix p m c cX2_nth 2 s args wsX2_nth RX2) (hr : meth.sig.returnType = (some (.object "ClassFileIndex$Value"))) (hlk : meth.locks = false) (hR : 0 ≤ R.frames ∧ 0 ≤ R.locals) (hK : cK dC dI k s) (hA : ∀ q, s.heap.size ≤ q → A q) (y0 : Option Nat) (σ : cS) (H : Heap) (locs : List Loc) (ls : Array Slot) (hl : lv_has ls 2 [(0, .ref h)]) (hO : cO dC dI b k A s.heap σ H locs) (hw : C_X2_nth_b26 b k h Q y0 σ) : W p l e R s m args below meth c H locs 0 0 (MQ below (va_Qq Q (cAt dC dI A b k) A) args s 0 0 A) (F0 m 26 ls [va_rf y0]) := by
  unfold C_X2_nth_b26 at hw
  exact W.aret (v := va_rf y0) X.1 X.2.1 hr (Or.inl ⟨_, rfl⟩) (va_rf_or _) (fun t ht hW => ⟨⟨y0, σ, rfl, hw, cO_end hO hK ht hW⟩, hO.2.2.F ht⟩) hO.2.2.2.2 dX2_nth_26 hlk
def C_X2_nth_b25 (b : Nat → Nat) (k : Nat → ClassId) (h : Nat) (Q : Option Nat → cS → Prop) (σ : cS) : Prop :=
 C_X2_nth_b26 b k h Q none σ
set_option maxHeartbeats 4000000 in
set_option maxRecDepth 100000 in
theorem cB_X2_nth_25 {h : Nat} {Q : Option Nat → cS → Prop} (X : CallFix p m c cX2_nth 2 s args wsX2_nth RX2) (hr : meth.sig.returnType = (some (.object "ClassFileIndex$Value"))) (hlk : meth.locks = false) (hR : 0 ≤ R.frames ∧ 0 ≤ R.locals) (hK : cK dC dI k s) (hA : ∀ q, s.heap.size ≤ q → A q) (σ : cS) (H : Heap) (locs : List Loc) (ls : Array Slot) (hl : lv_has ls 2 [(0, .ref h)]) (hO : cO dC dI b k A s.heap σ H locs) (hw : C_X2_nth_b25 b k h Q σ) : W p l e R s m args below meth c H locs 0 0 (MQ below (va_Qq Q (cAt dC dI A b k) A) args s 0 0 A) (F0 m 25 ls []) := by
  unfold C_X2_nth_b25 at hw
  refine lv_null X.1 X.2.1 dX2_nth_25 ?_
  exact cB_X2_nth_26 X hr hlk hR hK hA none σ H locs ls (lv_sub hl [0] rfl) hO hw
def C_X2_nth_b0 (b : Nat → Nat) (k : Nat → ClassId) (h : Nat) (Q : Option Nat → cS → Prop) (x1 : Int32) (σ : cS) : Prop :=
 (x1 < (1 : Int32) → C_X2_nth_b25 b k h Q σ) ∧ (¬ x1 < (1 : Int32) → ∃ v7 : Option Nat, pR σ.2.2.2.2 (some h) 2 1 v7 ∧ ∃ (n10 : Nat) (f10 : Nat → Option Nat), pQ σ.2.2.2.2 v7 (k 3) n10 f10 ∧ ((Int32.ofNat n10) < x1 → C_X2_nth_b25 b k h Q σ) ∧ (¬ (Int32.ofNat n10) < x1 → ∃ v15 : Option Nat, pR σ.2.2.2.2 (some h) 2 1 v15 ∧ ∃ (n21 : Nat) (f21 : Nat → Option Nat), pQ σ.2.2.2.2 v15 (k 3) n21 f21 ∧ vp_in (x1 - (1 : Int32)) n21 ∧ C_X2_nth_b26 b k h Q (f21 (x1 - (1 : Int32)).toNatClampNeg) σ))
set_option maxHeartbeats 4000000 in
set_option maxRecDepth 100000 in
theorem cB_X2_nth_0 {h : Nat} {Q : Option Nat → cS → Prop} (X : CallFix p m c cX2_nth 2 s args wsX2_nth RX2) (hr : meth.sig.returnType = (some (.object "ClassFileIndex$Value"))) (hlk : meth.locks = false) (hR : 0 ≤ R.frames ∧ 0 ≤ R.locals) (hK : cK dC dI k s) (hA : ∀ q, s.heap.size ≤ q → A q) (x1 : Int32) (σ : cS) (H : Heap) (locs : List Loc) (ls : Array Slot) (hl : lv_has ls 2 [(0, .ref h), (1, .int x1)]) (hO : cO dC dI b k A s.heap σ H locs) (hw : C_X2_nth_b0 b k h Q x1 σ) : W p l e R s m args below meth c H locs 0 0 (MQ below (va_Qq Q (cAt dC dI A b k) A) args s 0 0 A) (F0 m 0 ls []) := by
  unfold C_X2_nth_b0 at hw
  refine lv_iload_n X.1 X.2.1 dX2_nth_0 rfl (lv_at hl 1 rfl) ?_
  refine lv_iconst (v := 1) X.1 X.2.1 dX2_nth_1 (by decide) ?_
  refine lv_icmp_lt (tgt := 25) X.1 X.2.1 dX2_nth_2 rfl (fun hc9 => ?_) (fun hc9 => ?_)
  · have hw := hw.1 hc9
    exact cB_X2_nth_25 X hr hlk hR hK hA σ H locs ls (lv_sub hl [0] rfl) hO hw
  · have hw := hw.2 hc9
    refine lv_iload_n X.1 X.2.1 dX2_nth_5 rfl (lv_at hl 1 rfl) ?_
    refine lv_aload_n X.1 X.2.1 dX2_nth_6 rfl (lv_at hl 0 rfl) ?_
    obtain ⟨v7, g7, hw⟩ := hw
    refine cg_X2_values X fX2_X2_values hK hO g7 dX2_nth_7 ?_
    obtain ⟨n10, f10, g10, hw⟩ := hw
    refine clenQ X.1 X.2.1 hK hO g10 dX2_nth_10 ?_
    refine lv_icmp_gt (tgt := 25) X.1 X.2.1 dX2_nth_11 rfl (fun hc9 => ?_) (fun hc9 => ?_)
    · have hw := hw.1 hc9
      exact cB_X2_nth_25 X hr hlk hR hK hA σ H locs ls (lv_sub hl [0] rfl) hO hw
    · have hw := hw.2 hc9
      refine lv_aload_n X.1 X.2.1 dX2_nth_14 rfl (lv_at hl 0 rfl) ?_
      obtain ⟨v15, g15, hw⟩ := hw
      refine cg_X2_values X fX2_X2_values hK hO g15 dX2_nth_15 ?_
      refine lv_iload_n X.1 X.2.1 dX2_nth_18 rfl (lv_at hl 1 rfl) ?_
      refine lv_iconst (v := 1) X.1 X.2.1 dX2_nth_19 (by decide) ?_
      refine lv_isub X.1 X.2.1 dX2_nth_20 ?_
      obtain ⟨n21, f21, g21, k21, hw⟩ := hw
      refine caaload X.1 X.2.1 hK hO g21 k21 dX2_nth_21 ?_
      refine lv_goto (tgt := 26) X.1 X.2.1 dX2_nth_22 rfl ?_
      exact cB_X2_nth_26 X hr hlk hR hK hA (f21 (x1 - (1 : Int32)).toNatClampNeg) σ H locs ls (lv_sub hl [0] rfl) hO hw
def C_X2_nth_w (b : Nat → Nat) (k : Nat → ClassId) (h : Nat) (Q : Option Nat → cS → Prop) (x1 : Int32) (σ : cS) : Prop := C_X2_nth_b0 b k h Q x1 σ
abbrev rmX2_nth : Room := { frames := 0, cells := 0, slots := 0, locals := 0 }
set_option maxHeartbeats 4000000 in
set_option maxRecDepth 100000 in
theorem cC_X2_nth (l : Launch) (dC : Nat → ClassId) (dI : Nat → Nat → Nat) (b : Nat → Nat) (k : Nat → ClassId) (σ : cS) (sz : Nat) (h : Nat) (x1 : Int32) (Q : Option Nat → cS → Prop) (hw : C_X2_nth_w b k h Q x1 σ) : Met l yX2_nth wsX2_nth rmX2_nth (cPc dC dI b k sz σ [.ref h, .int x1]) (va_Qq Q (cAt dC dI (va_A (cCells b k σ) sz) b k) (va_A (cCells b k σ) sz)) 0 0 (va_A (cCells b k σ) sz) := by
  refine Met.ofW (cc := cX2_nth) (maxL := 2) (ret := (some (.object "ClassFileIndex$Value"))) (by decide) rfl ?_
  intro p e s m args below meth c s₁ B hml hv
  obtain ⟨hargs, hsz, hP, hK, hD0⟩ := hv
  have hts := atoms_spec (ws := wsX2_nth) B.pre
  have hown : s.vm.findClass RX2 = some m.cls := findClass_of_methodNamed B.named
  subst hsz
  subst hargs
  have hD := hD0.self (sz := s.heap.size)
  generalize hAe : va_A (cCells b k σ) s.heap.size = A at hD ⊢
  have hA : ∀ q : Nat, s.heap.size ≤ q → A q := fun q h => by rw [← hAe]; exact Or.inr h
  have hl := lv_entry ([.ref h, .int x1]) (n := 2) (Nat.le_of_ble_eq_true rfl)
  rw [lg_entry_eq]
  generalize (lg_sl ([.ref h, .int x1]) ++ List.replicate (2 - (lg_sl ([.ref h, .int x1])).length) Slot.unset).toArray = ls at hl ⊢
  have hl : lv_has ls 2 [(0, .ref h), (1, .int x1)] := hl
  unfold C_X2_nth_w at hw
  exact cB_X2_nth_0 ⟨B.exec, B.bytes, hml, hown, hts⟩ B.returns B.notSynchronized ⟨Nat.le_of_ble_eq_true rfl, Nat.le_of_ble_eq_true rfl⟩ hK hA x1 σ s.heap [] ls (lv_sub hl [0, 1] rfl) ⟨hP, hD, va_S.rf⟩ hw
def C_X5_contained_b21 (b : Nat → Nat) (k : Nat → ClassId) (h : Nat) (Q : Int32 → cS → Prop) (σ : cS) : Prop :=
 Q (0 : Int32) σ
set_option maxHeartbeats 4000000 in
set_option maxRecDepth 100000 in
theorem cB_X5_contained_21 {h : Nat} {Q : Int32 → cS → Prop} (X : CallFix p m c cX5_contained 6 s args wsX5_contained RX5) (hr : meth.sig.returnType = (some .int)) (hlk : meth.locks = false) (hR : 1 ≤ R.frames ∧ 21 ≤ R.locals) (hK : cK dC dI k s) (hA : ∀ q, s.heap.size ≤ q → A q) (σ : cS) (H : Heap) (locs : List Loc) (ls : Array Slot) (hl : lv_has ls 6 [(0, .ref h)]) (hO : cO dC dI b k A s.heap σ H locs) (hw : C_X5_contained_b21 b k h Q σ) : W p l e R s m args below meth c H locs 0 0 (MQ below (va_Qi Q (cAt dC dI A b k) A) args s 0 0 A) (F0 m 21 ls []) := by
  unfold C_X5_contained_b21 at hw
  refine lv_iconst (v := 0) X.1 X.2.1 dX5_contained_21 (by decide) ?_
  exact W.iret (v := (0 : Int32)) X.1 X.2.1 hr (fun t ht hW => ⟨⟨(0 : Int32), σ, rfl, hw, cO_end hO hK ht hW⟩, hO.2.2.F ht⟩) hO.2.2.2.2 dX5_contained_22 hlk
def C_X5_contained_b69 (b : Nat → Nat) (k : Nat → ClassId) (h : Nat) (Q : Int32 → cS → Prop) (K28 : Int32 → Option Nat → Int32 → Int32 → cS → Prop) (x1 : Int32) (x2 : Option Nat) (x3 : Int32) (x4 : Int32) (σ : cS) : Prop :=
 ∀ v69 : Int32, v69 = x4 + (1 : Int32) → K28 x1 x2 x3 v69 σ
set_option maxHeartbeats 4000000 in
set_option maxRecDepth 100000 in
theorem cB_X5_contained_69 {h : Nat} {Q : Int32 → cS → Prop} {K28 : Int32 → Option Nat → Int32 → Int32 → cS → Prop} (X : CallFix p m c cX5_contained 6 s args wsX5_contained RX5) (hr : meth.sig.returnType = (some .int)) (hlk : meth.locks = false) (hR : 1 ≤ R.frames ∧ 21 ≤ R.locals) (hK : cK dC dI k s) (hA : ∀ q, s.heap.size ≤ q → A q) (k28 : ∀ (x1 : Int32) (x2 : Option Nat) (x3 : Int32) (x4 : Int32) (σ : cS) (H : Heap) (locs : List Loc) (ls : Array Slot), lv_has ls 6 [(0, .ref h), (1, .int x1), (2, va_rf x2), (3, .int x3), (4, .int x4)] → cO dC dI b k A s.heap σ H locs → K28 x1 x2 x3 x4 σ → W p l e R s m args below meth c H locs 0 0 (MQ below (va_Qi Q (cAt dC dI A b k) A) args s 0 0 A) (F0 m 28 ls [])) (x1 : Int32) (x2 : Option Nat) (x3 : Int32) (x4 : Int32) (σ : cS) (H : Heap) (locs : List Loc) (ls : Array Slot) (hl : lv_has ls 6 [(0, .ref h), (1, .int x1), (2, va_rf x2), (3, .int x3), (4, .int x4)]) (hO : cO dC dI b k A s.heap σ H locs) (hw : C_X5_contained_b69 b k h Q K28 x1 x2 x3 x4 σ) : W p l e R s m args below meth c H locs 0 0 (MQ below (va_Qi Q (cAt dC dI A b k) A) args s 0 0 A) (F0 m 69 ls []) := by
  unfold C_X5_contained_b69 at hw
  obtain ⟨v69, e69⟩ : ∃ z, z = x4 + (1 : Int32) := ⟨_, rfl⟩
  have hw := hw v69 e69
  refine lv_iinc (lv' := [(4, .int v69), (0, .ref h), (1, .int x1), (2, va_rf x2), (3, .int x3)]) (k := 4) (v := v69) X.1 X.2.1 dX5_contained_69 hl rfl (by rw [e69]; rfl) (by decide) rfl (fun ls hl => ?_)
  refine lv_goto (tgt := 28) X.1 X.2.1 dX5_contained_72 rfl ?_
  exact k28 x1 x2 x3 v69 σ H locs ls (lv_sub hl [1, 2, 3, 4, 0] rfl) hO hw
def C_X5_contained_b28_s (b : Nat → Nat) (k : Nat → ClassId) (h : Nat) (Q : Int32 → cS → Prop) (K28 : Int32 → Option Nat → Int32 → Int32 → cS → Prop) (x1 : Int32) (x2 : Option Nat) (x3 : Int32) (x4 : Int32) (σ : cS) : Prop :=
 ∃ v31 : Option Nat, pR σ.2.2.2.2 x2 5 2 v31 ∧ ∃ v34 : Option Nat, pR σ.2.2.2.2 v31 2 1 v34 ∧ ∃ (n37 : Nat) (f37 : Nat → Option Nat), pQ σ.2.2.2.2 v34 (k 3) n37 f37 ∧ ((Int32.ofNat n37) < x4 → Q x3 σ) ∧ (¬ (Int32.ofNat n37) < x4 → ∃ v42 : Option Nat, pR σ.2.2.2.2 x2 5 2 v42 ∧ ∃ a47 : Nat, pX σ.2.2.2.2 v42 2 a47 ∧ C_X2_nth_w b k a47 (fun r47 t47 => (r47 = none → C_X5_contained_b69 b k h Q K28 x1 x2 x3 x4 t47) ∧ (¬ r47 = none → ∃ a60 : Nat, pX t47.2.2.2.2 r47 5 a60 ∧ C_X5_isAnnotationOf_w b k a60 (fun r60 t60 => (r60 = 0 → C_X5_contained_b69 b k h Q K28 x1 x2 x3 x4 t60) ∧ (¬ r60 = 0 → ∀ v66 : Int32, v66 = x3 + (1 : Int32) → C_X5_contained_b69 b k h Q K28 x1 x2 v66 x4 t60)) x1 t47)) x4 σ)
def C_X5_contained_b28_f (b : Nat → Nat) (k : Nat → ClassId) (h : Nat) (Q : Int32 → cS → Prop) : (Int32 × Option Nat × Int32 × Int32 × cS → Prop) → Int32 × Option Nat × Int32 × Int32 × cS → Prop :=
 fun K z => C_X5_contained_b28_s b k h Q (fun x1 x2 x3 x4 σ => K (x1, x2, x3, x4, σ)) z.1 z.2.1 z.2.2.1 z.2.2.2.1 z.2.2.2.2
def C_X5_contained_b28 (b : Nat → Nat) (k : Nat → ClassId) (h : Nat) (Q : Int32 → cS → Prop) (x1 : Int32) (x2 : Option Nat) (x3 : Int32) (x4 : Int32) (σ : cS) : Prop := ∃ n, fx (C_X5_contained_b28_f b k h Q ) n (x1, x2, x3, x4, σ)
set_option maxHeartbeats 4000000 in
set_option maxRecDepth 100000 in
theorem cB_X5_contained_28 {h : Nat} {Q : Int32 → cS → Prop} (X : CallFix p m c cX5_contained 6 s args wsX5_contained RX5) (hr : meth.sig.returnType = (some .int)) (hlk : meth.locks = false) (hR : 1 ≤ R.frames ∧ 21 ≤ R.locals) (hK : cK dC dI k s) (hA : ∀ q, s.heap.size ≤ q → A q) : ∀ (n : Nat) (x1 : Int32) (x2 : Option Nat) (x3 : Int32) (x4 : Int32) (σ : cS) (H : Heap) (locs : List Loc) (ls : Array Slot), lv_has ls 6 [(0, .ref h), (1, .int x1), (2, va_rf x2), (3, .int x3), (4, .int x4)] → cO dC dI b k A s.heap σ H locs → fx (C_X5_contained_b28_f b k h Q ) n (x1, x2, x3, x4, σ) → W p l e R s m args below meth c H locs 0 0 (MQ below (va_Qi Q (cAt dC dI A b k) A) args s 0 0 A) (F0 m 28 ls []) := by
  intro n
  induction n with
  | zero => intro x1 x2 x3 x4 σ H locs ls hl hO hw; exact False.elim hw
  | succ n k28 =>
    intro x1 x2 x3 x4 σ H locs ls hl hO hw
    have hw : C_X5_contained_b28_s b k h Q (fun x1 x2 x3 x4 σ => fx (C_X5_contained_b28_f b k h Q ) n (x1, x2, x3, x4, σ)) x1 x2 x3 x4 σ := hw
    unfold C_X5_contained_b28_s at hw
    refine lv_iload X.1 X.2.1 dX5_contained_28 (lv_at hl 4 rfl) ?_
    refine lv_aload_nO X.1 X.2.1 dX5_contained_30 rfl (lv_at hl 2 rfl) ?_
    obtain ⟨v31, g31, hw⟩ := hw
    refine cg_X5_parts X fX5_X5_parts hK hO g31 dX5_contained_31 ?_
    obtain ⟨v34, g34, hw⟩ := hw
    refine cg_X2_values X fX5_X2_values hK hO g34 dX5_contained_34 ?_
    obtain ⟨n37, f37, g37, hw⟩ := hw
    refine clenQ X.1 X.2.1 hK hO g37 dX5_contained_37 ?_
    refine lv_icmp_gt (tgt := 75) X.1 X.2.1 dX5_contained_38 rfl (fun hc9 => ?_) (fun hc9 => ?_)
    · have hw := hw.1 hc9
      refine lv_iload_n X.1 X.2.1 dX5_contained_75 rfl (lv_at hl 3 rfl) ?_
      exact W.iret (v := x3) X.1 X.2.1 hr (fun t ht hW => ⟨⟨x3, σ, rfl, hw, cO_end hO hK ht hW⟩, hO.2.2.F ht⟩) hO.2.2.2.2 dX5_contained_76 hlk
    · have hw := hw.2 hc9
      refine lv_aload_nO X.1 X.2.1 dX5_contained_41 rfl (lv_at hl 2 rfl) ?_
      obtain ⟨v42, g42, hw⟩ := hw
      refine cg_X5_parts X fX5_X5_parts hK hO g42 dX5_contained_42 ?_
      refine lv_iload X.1 X.2.1 dX5_contained_45 (lv_at hl 4 rfl) ?_
      obtain ⟨a47, z47, hw⟩ := hw
      refine c_callqO (rest := []) (As := [.int x4]) X (cC_X2_nth l dC dI b k σ H.size a47 x4 _ hw) (cwV 1 X.2.2.2.2 gX5_X2_nth rfl rfl rfl hdX2_nth ⟨Nat.le_trans (show 0 + 1 ≤ 1 by decide) hR.1, Nat.le_trans (show 8 + (2 + 11) + 0 ≤ 21 by decide) hR.2⟩) (cRecvP hK hO z47 rfl) z47.1 hK hA hO rfl hl.1 rfl (Nat.le_of_ble_eq_true rfl) dX5_contained_47 (Nat.zero_le _) (Nat.zero_le _) (fun r47 t47 H locs hO hw => ?_)
      refine lv_astoreO (o := r47) (lv' := [(5, va_rf r47), (0, .ref h), (1, .int x1), (2, va_rf x2), (3, .int x3), (4, .int x4)]) X.1 X.2.1 dX5_contained_50 hl (by decide) rfl (fun ls hl => ?_)
      refine lv_aloadO X.1 X.2.1 dX5_contained_52 (lv_at hl 0 rfl) ?_
      refine lv_ifnullO (o := r47) (tgt := 69) X.1 X.2.1 dX5_contained_54 rfl (fun hc9 => ?_) (fun hc9 => ?_)
      · have hw := hw.1 hc9
        exact cB_X5_contained_69 X hr hlk hR hK hA k28 x1 x2 x3 x4 t47 H locs ls (lv_sub hl [1, 2, 3, 4, 5] rfl) hO hw
      · have hw := hw.2 hc9
        refine lv_aloadO X.1 X.2.1 dX5_contained_57 (lv_at hl 0 rfl) ?_
        refine lv_iload_n X.1 X.2.1 dX5_contained_59 rfl (lv_at hl 2 rfl) ?_
        obtain ⟨a60, z60, hw⟩ := hw
        refine c_calliO (rest := []) (As := [.int x1]) X (cC_X5_isAnnotationOf l dC dI b k t47 H.size a60 x1 _ hw) (cwV 1 X.2.2.2.2 gX5_X5_isAnnotationOf rfl rfl rfl hdX5_isAnnotationOf ⟨Nat.le_trans (show 0 + 1 ≤ 1 by decide) hR.1, Nat.le_trans (show 8 + (2 + 11) + 0 ≤ 21 by decide) hR.2⟩) (cRecvP hK hO z60 rfl) z60.1 hK hA hO rfl hl.1 rfl (Nat.le_of_ble_eq_true rfl) dX5_contained_60 (Nat.zero_le _) (Nat.zero_le _) (fun r60 t60 H locs hO hw => ?_)
        refine lv_if_eq (tgt := 69) X.1 X.2.1 dX5_contained_63 rfl (fun hc9 => ?_) (fun hc9 => ?_)
        · have hw := hw.1 hc9
          exact cB_X5_contained_69 X hr hlk hR hK hA k28 x1 x2 x3 x4 t60 H locs ls (lv_sub hl [1, 2, 3, 4, 5] rfl) hO hw
        · have hw := hw.2 hc9
          obtain ⟨v66, e66⟩ : ∃ z, z = x3 + (1 : Int32) := ⟨_, rfl⟩
          have hw := hw v66 e66
          refine lv_iinc (lv' := [(3, .int v66), (5, va_rf r47), (0, .ref h), (1, .int x1), (2, va_rf x2), (4, .int x4)]) (k := 4) (v := v66) X.1 X.2.1 dX5_contained_66 hl rfl (by rw [e66]; rfl) (by decide) (by cases x2 <;> rfl) (fun ls hl => ?_)
          exact cB_X5_contained_69 X hr hlk hR hK hA k28 x1 x2 v66 x4 t60 H locs ls (lv_sub hl [2, 3, 4, 0, 5] rfl) hO hw
def C_X5_contained_b0 (b : Nat → Nat) (k : Nat → ClassId) (h : Nat) (Q : Int32 → cS → Prop) (x1 : Int32) (σ : cS) : Prop :=
 ∃ v1 : Option Nat, pR σ.2.2.2.2 (some h) 5 2 v1 ∧ ∃ a5 : Nat, pX σ.2.2.2.2 v1 2 a5 ∧ C_X2_nth_w b k a5 (fun r5 t5 => (r5 = none → C_X5_contained_b21 b k h Q t5) ∧ (¬ r5 = none → ∃ v14 : Int32, pI t5.2.2.2.2 r5 5 0 v14 ∧ (v14 = (4 : Int32) → C_X5_contained_b28 b k h Q x1 r5 (0 : Int32) (1 : Int32) t5) ∧ (¬ v14 = (4 : Int32) → C_X5_contained_b21 b k h Q t5))) (1 : Int32) σ
set_option maxHeartbeats 4000000 in
set_option maxRecDepth 100000 in
theorem cB_X5_contained_0 {h : Nat} {Q : Int32 → cS → Prop} (X : CallFix p m c cX5_contained 6 s args wsX5_contained RX5) (hr : meth.sig.returnType = (some .int)) (hlk : meth.locks = false) (hR : 1 ≤ R.frames ∧ 21 ≤ R.locals) (hK : cK dC dI k s) (hA : ∀ q, s.heap.size ≤ q → A q) (x1 : Int32) (σ : cS) (H : Heap) (locs : List Loc) (ls : Array Slot) (hl : lv_has ls 6 [(0, .ref h), (1, .int x1)]) (hO : cO dC dI b k A s.heap σ H locs) (hw : C_X5_contained_b0 b k h Q x1 σ) : W p l e R s m args below meth c H locs 0 0 (MQ below (va_Qi Q (cAt dC dI A b k) A) args s 0 0 A) (F0 m 0 ls []) := by
  unfold C_X5_contained_b0 at hw
  refine lv_aload_n X.1 X.2.1 dX5_contained_0 rfl (lv_at hl 0 rfl) ?_
  obtain ⟨v1, g1, hw⟩ := hw
  refine cg_X5_parts X fX5_X5_parts hK hO g1 dX5_contained_1 ?_
  refine lv_iconst (v := 1) X.1 X.2.1 dX5_contained_4 (by decide) ?_
  obtain ⟨a5, z5, hw⟩ := hw
  refine c_callqO (rest := []) (As := [.int (1 : Int32)]) X (cC_X2_nth l dC dI b k σ H.size a5 (1 : Int32) _ hw) (cwV 1 X.2.2.2.2 gX5_X2_nth rfl rfl rfl hdX2_nth ⟨Nat.le_trans (show 0 + 1 ≤ 1 by decide) hR.1, Nat.le_trans (show 8 + (2 + 11) + 0 ≤ 21 by decide) hR.2⟩) (cRecvP hK hO z5 rfl) z5.1 hK hA hO rfl hl.1 rfl (Nat.le_of_ble_eq_true rfl) dX5_contained_5 (Nat.zero_le _) (Nat.zero_le _) (fun r5 t5 H locs hO hw => ?_)
  refine lv_astore_nO (o := r5) (lv' := [(2, va_rf r5), (0, .ref h), (1, .int x1)]) X.1 X.2.1 dX5_contained_8 rfl hl (by decide) rfl (fun ls hl => ?_)
  refine lv_aload_nO X.1 X.2.1 dX5_contained_9 rfl (lv_at hl 0 rfl) ?_
  refine lv_ifnullO (o := r5) (tgt := 21) X.1 X.2.1 dX5_contained_10 rfl (fun hc9 => ?_) (fun hc9 => ?_)
  · have hw := hw.1 hc9
    exact cB_X5_contained_21 X hr hlk hR hK hA t5 H locs ls (lv_sub hl [1] rfl) hO hw
  · have hw := hw.2 hc9
    refine lv_aload_nO X.1 X.2.1 dX5_contained_13 rfl (lv_at hl 0 rfl) ?_
    obtain ⟨v14, g14, hw⟩ := hw
    refine cg_X5_kind X fX5_X5_kind hK hO g14 dX5_contained_14 ?_
    refine lv_iconst (v := 4) X.1 X.2.1 dX5_contained_17 (by decide) ?_
    refine lv_icmp_eq (tgt := 23) X.1 X.2.1 dX5_contained_18 rfl (fun hc9 => ?_) (fun hc9 => ?_)
    · have hw := hw.1 hc9
      refine lv_iconst (v := 0) X.1 X.2.1 dX5_contained_23 (by decide) ?_
      refine lv_istore_n (lv' := [(3, .int (0 : Int32)), (2, va_rf r5), (0, .ref h), (1, .int x1)]) X.1 X.2.1 dX5_contained_24 rfl hl (by decide) (by cases r5 <;> rfl) (fun ls hl => ?_)
      refine lv_iconst (v := 1) X.1 X.2.1 dX5_contained_25 (by decide) ?_
      refine lv_istore (lv' := [(4, .int (1 : Int32)), (3, .int (0 : Int32)), (2, va_rf r5), (0, .ref h), (1, .int x1)]) X.1 X.2.1 dX5_contained_26 hl (by decide) rfl (fun ls hl => ?_)
      obtain ⟨n, hw⟩ := hw
      exact cB_X5_contained_28 X hr hlk hR hK hA n x1 r5 (0 : Int32) (1 : Int32) t5 H locs ls (lv_sub hl [3, 4, 2, 1, 0] rfl) hO hw
    · have hw := hw.2 hc9
      exact cB_X5_contained_21 X hr hlk hR hK hA t5 H locs ls (lv_sub hl [1] rfl) hO hw
def C_X5_contained_w (b : Nat → Nat) (k : Nat → ClassId) (h : Nat) (Q : Int32 → cS → Prop) (x1 : Int32) (σ : cS) : Prop := C_X5_contained_b0 b k h Q x1 σ
abbrev rmX5_contained : Room := { frames := 1, cells := 0, slots := 0, locals := 21 }
set_option maxHeartbeats 4000000 in
set_option maxRecDepth 100000 in
theorem cC_X5_contained (l : Launch) (dC : Nat → ClassId) (dI : Nat → Nat → Nat) (b : Nat → Nat) (k : Nat → ClassId) (σ : cS) (sz : Nat) (h : Nat) (x1 : Int32) (Q : Int32 → cS → Prop) (hw : C_X5_contained_w b k h Q x1 σ) : Met l yX5_contained wsX5_contained rmX5_contained (cPc dC dI b k sz σ [.ref h, .int x1]) (va_Qi Q (cAt dC dI (va_A (cCells b k σ) sz) b k) (va_A (cCells b k σ) sz)) 0 0 (va_A (cCells b k σ) sz) := by
  refine Met.ofW (cc := cX5_contained) (maxL := 6) (ret := (some .int)) (by decide) rfl ?_
  intro p e s m args below meth c s₁ B hml hv
  obtain ⟨hargs, hsz, hP, hK, hD0⟩ := hv
  have hts := atoms_spec (ws := wsX5_contained) B.pre
  have hown : s.vm.findClass RX5 = some m.cls := findClass_of_methodNamed B.named
  subst hsz
  subst hargs
  have hD := hD0.self (sz := s.heap.size)
  generalize hAe : va_A (cCells b k σ) s.heap.size = A at hD ⊢
  have hA : ∀ q : Nat, s.heap.size ≤ q → A q := fun q h => by rw [← hAe]; exact Or.inr h
  have hl := lv_entry ([.ref h, .int x1]) (n := 6) (Nat.le_of_ble_eq_true rfl)
  rw [lg_entry_eq]
  generalize (lg_sl ([.ref h, .int x1]) ++ List.replicate (6 - (lg_sl ([.ref h, .int x1])).length) Slot.unset).toArray = ls at hl ⊢
  have hl : lv_has ls 6 [(0, .ref h), (1, .int x1)] := hl
  unfold C_X5_contained_w at hw
  exact cB_X5_contained_0 ⟨B.exec, B.bytes, hml, hown, hts⟩ B.returns B.notSynchronized ⟨Nat.le_of_ble_eq_true rfl, Nat.le_of_ble_eq_true rfl⟩ hK hA x1 σ s.heap [] ls (lv_sub hl [0, 1] rfl) ⟨hP, hD, va_S.rf⟩ hw
end
