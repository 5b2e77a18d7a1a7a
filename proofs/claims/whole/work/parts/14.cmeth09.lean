section
variable {p : Program} {l : Launch} {e : Env} {R : Room} {s : State} {m : MethodId} {args : Array Value} {below : List Frame} {meth : Method} {c : Code}
variable {dC : Nat → ClassId} {dI : Nat → Nat → Nat} {b : Nat → Nat} {k : Nat → ClassId} {A : Nat → Prop}
def C_X6_read_b0 (b : Nat → Nat) (k : Nat → ClassId) (MC MS : Nat) (Q : Int32 → cS → Prop) (nc : Nat) (ns : Nat) (σ : cS) : Prop :=
 (¬ (σ.1 2) = (16 : Int32) → ∀ v21 : Int32, v21 = (σ.1 1) → ∃ mc42 ms42 : Nat, nc + mc42 ≤ MC ∧ ns + ms42 ≤ MS ∧ C_X3_readFile_w b k mc42 ms42 (fun r42 t42 => ∀ t48 : cS, t48 = sI t42 0 (0 : Int32) → (¬ r42 = none → C_X1_add_w b k (fun r77 t77 => Q r77 t77) r42 t48) ∧ (r42 = none → C_X4_shrink_w b k (fun t60 => Q (-(t60.1 3)) t60) v21 t48)) (σ.1 0) σ) ∧ ((σ.1 2) = (16 : Int32) → Q (-1 : Int32) σ)
set_option maxHeartbeats 4000000 in
set_option maxRecDepth 100000 in
theorem cB_X6_read_0 {MC MS : Nat} {Q : Int32 → cS → Prop} (X : CallFix p m c cX6_read 3 s args wsX6_read RX6) (hr : meth.sig.returnType = (some .int)) (hlk : meth.locks = false) (hR : 26 ≤ R.frames ∧ 599 ≤ R.locals) (hK : cK dC dI k s) (hA : ∀ q, s.heap.size ≤ q → A q) (hRc : R.cells = MC ∧ R.slots = MS) (nc : Nat) (ns : Nat) (σ : cS) (H : Heap) (locs : List Loc) (ls : Array Slot) (hl : lv_has ls 3 [(0, .ref (b 0))]) (hO : cO dC dI b k A s.heap σ H locs) (hc : (nc ≤ MC ∧ ns ≤ MS)) (hw : C_X6_read_b0 b k MC MS Q nc ns σ) : W p l e R s m args below meth c H locs nc ns (MQ below (va_Qi Q (cAt dC dI A b k) A) args s MC MS A) (F0 m 0 ls []) := by
  unfold C_X6_read_b0 at hw
  refine lv_aload_n X.1 X.2.1 dX6_read_0 rfl (lv_at hl 0 rfl) ?_
  refine cf_X6_knownClasses X fX6_X6_knownClasses hK hO dX6_read_1 ?_
  refine cf_X1_size X fX6_X1_size hK hO dX6_read_4 ?_
  refine lv_bipush (v := 16) X.1 X.2.1 dX6_read_7 (by decide) ?_
  refine lv_icmp_ne (tgt := 14) X.1 X.2.1 dX6_read_9 rfl (fun hc9 => ?_) (fun hc9 => ?_)
  · have hw := hw.1 hc9
    refine lv_aload_n X.1 X.2.1 dX6_read_14 rfl (lv_at hl 0 rfl) ?_
    refine cf_X6_knownTexts X fX6_X6_knownTexts hK hO dX6_read_15 ?_
    refine cf_X4_size X fX6_X4_size hK hO dX6_read_18 ?_
    refine lv_topi (fun v21 e21 => ?_)
    have hw := hw v21 e21
    refine lv_istore_n (lv' := [(1, .int v21), (0, .ref (b 0))]) X.1 X.2.1 dX6_read_21 rfl hl (by decide) rfl (fun ls hl => ?_)
    refine lv_aload_n X.1 X.2.1 dX6_read_22 rfl (lv_at hl 1 rfl) ?_
    refine cf_X6_reader X fX6_X6_reader hK hO dX6_read_23 ?_
    refine lv_aload_n X.1 X.2.1 dX6_read_26 rfl (lv_at hl 1 rfl) ?_
    refine cf_X6_buffer X fX6_X6_buffer hK hO dX6_read_27 ?_
    refine lv_aload_n X.1 X.2.1 dX6_read_30 rfl (lv_at hl 1 rfl) ?_
    refine cf_X6_held X fX6_X6_held hK hO dX6_read_31 ?_
    refine lv_aload_n X.1 X.2.1 dX6_read_34 rfl (lv_at hl 1 rfl) ?_
    refine cf_X6_knownTexts X fX6_X6_knownTexts hK hO dX6_read_35 ?_
    refine lv_aload_n X.1 X.2.1 dX6_read_38 rfl (lv_at hl 1 rfl) ?_
    refine cf_X6_knownClasses X fX6_X6_knownClasses hK hO dX6_read_39 ?_
    obtain ⟨mc42, ms42, hc1, hc2, hw⟩ := hw
    have hc : nc + mc42 ≤ MC ∧ ns + ms42 ≤ MS := ⟨hc1, hc2⟩
    refine c_callq (rest := []) (As := [.ref (b 1), .int (σ.1 0), .ref (b 2), .ref (b 5)]) X (cC_X3_readFile l dC dI b k σ H.size mc42 ms42 (σ.1 0) _ hw) (cwV 4 X.2.2.2.2 gX6_X3_readFile rfl rfl rfl hdX3_readFile ⟨Nat.le_trans (show 25 + 1 ≤ 26 by decide) hR.1, Nat.le_trans (show 8 + (12 + 11) + 568 ≤ 599 by decide) hR.2⟩) (cRecv_X3 hK hO) hK hA hO rfl hl.1 rfl (Nat.le_of_ble_eq_true rfl) dX6_read_42 (by rw [hRc.1]; exact hc.1) (by rw [hRc.2]; exact hc.2) (fun r42 t42 H locs hO hw => ?_)
    refine lv_astore_nO (o := r42) (lv' := [(2, va_rf r42), (1, .int v21), (0, .ref (b 0))]) X.1 X.2.1 dX6_read_45 rfl hl (by decide) rfl (fun ls hl => ?_)
    refine lv_aload_n X.1 X.2.1 dX6_read_46 rfl (lv_at hl 2 rfl) ?_
    refine lv_iconst (v := 0) X.1 X.2.1 dX6_read_47 (by decide) ?_
    refine cp_X6_held X fX6_X6_held hK hO dX6_read_48 (fun H locs hO => ?_)
    obtain ⟨t48, e48⟩ : ∃ z, z = sI t42 0 (0 : Int32) := ⟨_, rfl⟩
    have hw := hw t48 e48
    rw [← e48] at hO
    refine lv_aload_nO X.1 X.2.1 dX6_read_51 rfl (lv_at hl 0 rfl) ?_
    refine lv_ifnonnullO (o := r42) (tgt := 72) X.1 X.2.1 dX6_read_52 rfl (fun hc9 => ?_) (fun hc9 => ?_)
    · have hw := hw.1 hc9
      refine lv_aload_n X.1 X.2.1 dX6_read_72 rfl (lv_at hl 2 rfl) ?_
      refine cf_X6_knownClasses X fX6_X6_knownClasses hK hO dX6_read_73 ?_
      refine lv_aload_nO X.1 X.2.1 dX6_read_76 rfl (lv_at hl 0 rfl) ?_
      refine c_calli (rest := []) (As := [va_rf r42]) X (cC_X1_add l dC dI b k t48 H.size r42 _ hw) (cwV 1 X.2.2.2.2 gX6_X1_add rfl rfl rfl hdX1_add ⟨Nat.le_trans (show 0 + 1 ≤ 26 by decide) hR.1, Nat.le_trans (show 8 + (2 + 11) + 0 ≤ 599 by decide) hR.2⟩) (cRecv_X1 hK hO) hK hA hO rfl hl.1 rfl (Nat.le_of_ble_eq_true rfl) dX6_read_77 (by rw [hRc.1]; exact hc.1) (by rw [hRc.2]; exact hc.2) (fun r77 t77 H locs hO hw => ?_)
      refine W.widen (k := MC) (n := MS) hc.1 hc.2 ?_
      exact W.iret (v := r77) X.1 X.2.1 hr (fun t ht hW => ⟨⟨r77, t77, rfl, hw, cO_end hO hK ht hW⟩, hO.2.2.F ht⟩) hO.2.2.2.2 dX6_read_80 hlk
    · have hw := hw.2 hc9
      refine lv_aload_n X.1 X.2.1 dX6_read_55 rfl (lv_at hl 2 rfl) ?_
      refine cf_X6_knownTexts X fX6_X6_knownTexts hK hO dX6_read_56 ?_
      refine lv_iload_n X.1 X.2.1 dX6_read_59 rfl (lv_at hl 1 rfl) ?_
      refine c_callv (rest := []) (As := [.int v21]) X (cC_X4_shrink l dC dI b k t48 H.size v21 _ hw) (cwV 1 X.2.2.2.2 gX6_X4_shrink rfl rfl rfl hdX4_shrink ⟨Nat.le_trans (show 0 + 1 ≤ 26 by decide) hR.1, Nat.le_trans (show 8 + (2 + 11) + 0 ≤ 599 by decide) hR.2⟩) (cRecv_X4 hK hO) hK hA hO rfl hl.1 rfl (Nat.le_of_ble_eq_true rfl) dX6_read_60 (by rw [hRc.1]; exact hc.1) (by rw [hRc.2]; exact hc.2) (fun t60 H locs hO hw => ?_)
      refine lv_aload_n X.1 X.2.1 dX6_read_63 rfl (lv_at hl 2 rfl) ?_
      refine cf_X6_reader X fX6_X6_reader hK hO dX6_read_64 ?_
      refine cf_X3_fault X fX6_X3_fault hK hO dX6_read_67 ?_
      refine lv_ineg X.1 X.2.1 dX6_read_70 ?_
      refine W.widen (k := MC) (n := MS) hc.1 hc.2 ?_
      exact W.iret (v := (-(t60.1 3))) X.1 X.2.1 hr (fun t ht hW => ⟨⟨(-(t60.1 3)), t60, rfl, hw, cO_end hO hK ht hW⟩, hO.2.2.F ht⟩) hO.2.2.2.2 dX6_read_71 hlk
  · have hw := hw.2 hc9
    refine lv_iconst (v := -1) X.1 X.2.1 dX6_read_12 (by decide) ?_
    refine W.widen (k := MC) (n := MS) hc.1 hc.2 ?_
    exact W.iret (v := (-1 : Int32)) X.1 X.2.1 hr (fun t ht hW => ⟨⟨(-1 : Int32), σ, rfl, hw, cO_end hO hK ht hW⟩, hO.2.2.F ht⟩) hO.2.2.2.2 dX6_read_13 hlk
def C_X6_read_w (b : Nat → Nat) (k : Nat → ClassId) (MC MS : Nat) (Q : Int32 → cS → Prop) (σ : cS) : Prop := C_X6_read_b0 b k MC MS Q 0 0 σ
abbrev rmX6_read (MC MS : Nat) : Room := { frames := 26, cells := MC, slots := MS, locals := 599 }
set_option maxHeartbeats 4000000 in
set_option maxRecDepth 100000 in
theorem cC_X6_read (l : Launch) (dC : Nat → ClassId) (dI : Nat → Nat → Nat) (b : Nat → Nat) (k : Nat → ClassId) (σ : cS) (sz : Nat) (MC MS : Nat) (Q : Int32 → cS → Prop) (hw : C_X6_read_w b k MC MS Q σ) : Met l yX6_read wsX6_read (rmX6_read MC MS) (cPc dC dI b k sz σ [.ref (b 0)]) (va_Qi Q (cAt dC dI (va_A (cCells b k σ) sz) b k) (va_A (cCells b k σ) sz)) MC MS (va_A (cCells b k σ) sz) := by
  refine Met.ofW (cc := cX6_read) (maxL := 3) (ret := (some .int)) (by decide) rfl ?_
  intro p e s m args below meth c s₁ B hml hv
  obtain ⟨hargs, hsz, hP, hK, hD0⟩ := hv
  have hts := atoms_spec (ws := wsX6_read) B.pre
  have hown : s.vm.findClass RX6 = some m.cls := findClass_of_methodNamed B.named
  subst hsz
  subst hargs
  have hD := hD0.self (sz := s.heap.size)
  generalize hAe : va_A (cCells b k σ) s.heap.size = A at hD ⊢
  have hA : ∀ q : Nat, s.heap.size ≤ q → A q := fun q h => by rw [← hAe]; exact Or.inr h
  have hl := lv_entry ([.ref (b 0)]) (n := 3) (Nat.le_of_ble_eq_true rfl)
  rw [lg_entry_eq]
  generalize (lg_sl ([.ref (b 0)]) ++ List.replicate (3 - (lg_sl ([.ref (b 0)])).length) Slot.unset).toArray = ls at hl ⊢
  have hl : lv_has ls 3 [(0, .ref (b 0))] := hl
  unfold C_X6_read_w at hw
  exact cB_X6_read_0 ⟨B.exec, B.bytes, hml, hown, hts⟩ B.returns B.notSynchronized ⟨Nat.le_of_ble_eq_true rfl, Nat.le_of_ble_eq_true rfl⟩ hK hA ⟨rfl, rfl⟩ 0 0 σ s.heap [] ls (lv_sub hl [0] rfl) ⟨hP, hD, va_S.rf⟩ ⟨Nat.zero_le _, Nat.zero_le _⟩ hw
end
