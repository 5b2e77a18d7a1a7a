def xAtParts (dC : Nat → ClassId) (dI : Nat → Nat → Nat) (k : Nat → ClassId) (h : Nat) (A : Nat → Prop) (u : Nat → Nat) (t : State) : Prop := va_P (dC, dI) vwCl [(h, .inr (2, [.ref (u 0), .ref (u 1)])), ((u 0), .inl (k 0, 0, .inl (fun _ => 0))), ((u 1), .inl (k 3, 0, .inr (.inr (.inr (.inr (fun _ => none))))))] t.heap ∧ cK2 dC dI k t ∧ va_D A [(h, .inr (2, [.ref (u 0), .ref (u 1)])), ((u 0), .inl (k 0, 0, .inl (fun _ => 0))), ((u 1), .inl (k 3, 0, .inr (.inr (.inr (.inr (fun _ => none))))))]
set_option maxHeartbeats 8000000 in
set_option maxRecDepth 100000 in
theorem pC_X2_init (l : Launch) (dC : Nat → ClassId) (dI : Nat → Nat → Nat) (k : Nat → ClassId) (h sz : Nat) : Met l yX2_init wsX2_init { frames := 1, cells := 2, slots := 0, locals := 20 } (va_Pc [.ref h, .int 0] (fun U => U.heap.size = sz ∧ va_P (dC, dI) vwCl [(h, .inr (2, [.null, .null]))] U.heap ∧ cK2 dC dI k U ∧ va_D (fun _ => True) [(h, .inr (2, [.null, .null]))])) (va_Qv (fun _ : Nat → Nat => True) (xAtParts dC dI k h (va_A [(h, .inr (2, [.null, .null]))] sz)) (va_A [(h, .inr (2, [.null, .null]))] sz)) 2 0 (va_A [(h, .inr (2, [.null, .null]))] sz) := by
  refine Met.ofW (cc := cX2_init) (maxL := 2) (ret := none) (by decide) rfl ?_
  intro p e s m args below meth c s₁ B hml hv
  obtain ⟨hargs, hsz, hP, hK, hD0⟩ := hv
  have hx := B.exec
  have hb := B.bytes
  have hr := B.returns
  have hlk := B.notSynchronized
  have hts := atoms_spec (ws := wsX2_init) B.pre
  have hown : s.vm.findClass RX2 = some m.cls := findClass_of_methodNamed B.named
  have hin : meth.name = "<init>" := (name_of_methodNamed B.named B.method).1
  subst hsz
  subst hargs
  have hD := hD0.self (sz := s.heap.size)
  generalize hAe : va_A [(h, .inr (2, [.null, .null]))] s.heap.size = A at hD ⊢
  have hA : ∀ q : Nat, s.heap.size ≤ q → A q := fun q h => by rw [← hAe]; exact Or.inr h
  have hS : va_S A s.heap s.heap [] := va_S.rf
  have hl := lv_entry ([.ref h, .int 0]) (n := 2) (Nat.le_of_ble_eq_true rfl)
  rw [lg_entry_eq]
  generalize (lg_sl ([.ref h, .int 0]) ++ List.replicate (2 - (lg_sl ([.ref h, .int 0])).length) Slot.unset).toArray = ls at hl ⊢
  have hl : lv_has ls 2 [(0, .ref h), (1, .int 0)] := hl
  refine lv_aload_n hx hb dX2_init_0 rfl (lv_at hl 0 rfl) ?_
  refine W.objInit hx hb hown (hts _ (List.mem_cons_of_mem _ oX2_link)) (hts _ (List.mem_cons_of_mem _ oInst)) (hts _ (List.mem_cons_of_mem _ oCode)) rfl (by rw [hml]; exact hl.1) rfl dX2_init_1 (Nat.le_of_ble_eq_true rfl) (Nat.le_of_ble_eq_true rfl) ?_
  refine W.eq (g2 := F0 m 4 ls []) rfl ?_
  refine lv_aload_n hx hb dX2_init_4 rfl (lv_at hl 0 rfl) ?_
  refine lv_iload_n hx hb dX2_init_5 rfl (lv_at hl 1 rfl) ?_
  refine va_newa (atype := .int) (ty := .int) (n := 0) (a0 := (0, .inl (fun _ => 0))) hx hb (hts _ (List.mem_cons_of_mem _ aInt)) rfl hK.1.1 hP hD hS hA (fun cA => rfl) (by decide) (by decide) (by decide) (Nat.le_of_ble_eq_true rfl) (Nat.le_of_ble_eq_true rfl) dX2_init_6 (fun q6 cA H hK1 hP hD hS => ?_)
  have e9 : cA = k 0 := ra_i (hK1.2 5 (cA, .int) rfl).2 (hK1.2 0 (k 0, .int) rfl).2
  subst e9
  have hP : va_P (dC, dI) vwCl [(h, .inr (2, [.null, .null])), (q6, .inl (k 0, 0, .inl (fun _ => 0)))] H := hP
  have hD : va_D A [(h, .inr (2, [.null, .null])), (q6, .inl (k 0, 0, .inl (fun _ => 0)))] := hD
  refine va_putF (D := (dC, dI)) (ci := 2) (C := RX2) (T := TX2) (N := 2) (v := .ref q6) hx hb hts (fun w h => List.mem_cons_of_mem _ (wlX2 w h)) tyX2 tyX2_ok nmX2 hown hK.1.1 hP hD hS 0 rfl rfl 0 (by decide) (hts _ (List.mem_cons_of_mem _ fX2_X2_names)) (fun _ h9 => h9) rfl hin rfl (tyX2_ok 0 (by decide)) rfl rfl (Nat.le_of_ble_eq_true rfl) dX2_init_8 (fun H locs hP hD hS => ?_)
  have hP : va_P (dC, dI) vwCl [(h, .inr (2, [.ref q6, .null])), (q6, .inl (k 0, 0, .inl (fun _ => 0)))] H := hP
  have hD : va_D A [(h, .inr (2, [.ref q6, .null])), (q6, .inl (k 0, 0, .inl (fun _ => 0)))] := hD
  refine lv_aload_n hx hb dX2_init_11 rfl (lv_at hl 0 rfl) ?_
  refine lv_iload_n hx hb dX2_init_12 rfl (lv_at hl 1 rfl) ?_
  refine va_newq (C := "ClassFileIndex$Value") (n := 0) (N' := 0) hx hb hown (hts _ (List.mem_cons_of_mem _ nX2_X5)) hK.1.2 hK.1.1 hP hD hS hA (by decide) (by decide) (by decide) (Nat.le_of_ble_eq_true rfl) (Nat.le_of_ble_eq_true rfl) dX2_init_13 (fun q13 cA H hK1 hP hD hS => ?_)
  have e9 : cA = k 3 := ra_o (hK1.2 5 (cA, .object "ClassFileIndex$Value") rfl).2 (hK1.2 3 (k 3, .object "ClassFileIndex$Value") rfl).2
  subst e9
  have hP : va_P (dC, dI) vwCl [(h, .inr (2, [.ref q6, .null])), (q6, .inl (k 0, 0, .inl (fun _ => 0))), (q13, .inl (k 3, 0, .inr (.inr (.inr (.inr (fun _ => none))))))] H := hP
  have hD : va_D A [(h, .inr (2, [.ref q6, .null])), (q6, .inl (k 0, 0, .inl (fun _ => 0))), (q13, .inl (k 3, 0, .inr (.inr (.inr (.inr (fun _ => none))))))] := hD
  refine va_putF (D := (dC, dI)) (ci := 2) (C := RX2) (T := TX2) (N := 2) (v := .ref q13) hx hb hts (fun w h => List.mem_cons_of_mem _ (wlX2 w h)) tyX2 tyX2_ok nmX2 hown hK.1.1 hP hD hS 0 rfl rfl 1 (by decide) (hts _ (List.mem_cons_of_mem _ fX2_X2_values)) (fun _ h9 => h9) rfl hin rfl (tyX2_ok 1 (by decide)) rfl rfl (Nat.le_of_ble_eq_true rfl) dX2_init_16 (fun H locs hP hD hS => ?_)
  have hP : va_P (dC, dI) vwCl [(h, .inr (2, [.ref q6, .ref q13])), (q6, .inl (k 0, 0, .inl (fun _ => 0))), (q13, .inl (k 3, 0, .inr (.inr (.inr (.inr (fun _ => none))))))] H := hP
  have hD : va_D A [(h, .inr (2, [.ref q6, .ref q13])), (q6, .inl (k 0, 0, .inl (fun _ => 0))), (q13, .inl (k 3, 0, .inr (.inr (.inr (.inr (fun _ => none))))))] := hD
  exact W.vret hx hb hr (fun t ht hW => ⟨⟨(fun j => if j = 0 then q6 else if j = 1 then q13 else 0), rfl, trivial, by rw [ht]; exact hP, hK.moved hW.alike, hD⟩, hS.F ht⟩) hS.2.2 dX2_init_19 hlk
def xAtTexts (dC : Nat → ClassId) (dI : Nat → Nat → Nat) (k : Nat → ClassId) (h : Nat) (A : Nat → Prop) (u : Nat → Nat) (t : State) : Prop := va_P (dC, dI) vwCl [(h, .inr (4, [.ref (u 0), .ref (u 1), .int (0 : Int32)])), ((u 0), .inl (k 2, 1920, .inl (fun _ => 0))), ((u 1), .inl (k 0, 192, .inl (fun _ => 0)))] t.heap ∧ cK2 dC dI k t ∧ va_D A [(h, .inr (4, [.ref (u 0), .ref (u 1), .int (0 : Int32)])), ((u 0), .inl (k 2, 1920, .inl (fun _ => 0))), ((u 1), .inl (k 0, 192, .inl (fun _ => 0)))]
set_option maxHeartbeats 8000000 in
set_option maxRecDepth 100000 in
theorem pC_X4_init (l : Launch) (dC : Nat → ClassId) (dI : Nat → Nat → Nat) (k : Nat → ClassId) (h sz : Nat) : Met l yX4_init wsX4_init { frames := 1, cells := 2, slots := 2112, locals := 20 } (va_Pc [.ref h] (fun U => U.heap.size = sz ∧ va_P (dC, dI) vwCl [(h, .inr (4, [.null, .null, .int 0]))] U.heap ∧ cK2 dC dI k U ∧ va_D (fun _ => True) [(h, .inr (4, [.null, .null, .int 0]))])) (va_Qv (fun _ : Nat → Nat => True) (xAtTexts dC dI k h (va_A [(h, .inr (4, [.null, .null, .int 0]))] sz)) (va_A [(h, .inr (4, [.null, .null, .int 0]))] sz)) 2 2112 (va_A [(h, .inr (4, [.null, .null, .int 0]))] sz) := by
  refine Met.ofW (cc := cX4_init) (maxL := 1) (ret := none) (by decide) rfl ?_
  intro p e s m args below meth c s₁ B hml hv
  obtain ⟨hargs, hsz, hP, hK, hD0⟩ := hv
  have hx := B.exec
  have hb := B.bytes
  have hr := B.returns
  have hlk := B.notSynchronized
  have hts := atoms_spec (ws := wsX4_init) B.pre
  have hown : s.vm.findClass RX4 = some m.cls := findClass_of_methodNamed B.named
  have hin : meth.name = "<init>" := (name_of_methodNamed B.named B.method).1
  subst hsz
  subst hargs
  have hD := hD0.self (sz := s.heap.size)
  generalize hAe : va_A [(h, .inr (4, [.null, .null, .int 0]))] s.heap.size = A at hD ⊢
  have hA : ∀ q : Nat, s.heap.size ≤ q → A q := fun q h => by rw [← hAe]; exact Or.inr h
  have hS : va_S A s.heap s.heap [] := va_S.rf
  have hl := lv_entry ([.ref h]) (n := 1) (Nat.le_of_ble_eq_true rfl)
  rw [lg_entry_eq]
  generalize (lg_sl ([.ref h]) ++ List.replicate (1 - (lg_sl ([.ref h])).length) Slot.unset).toArray = ls at hl ⊢
  have hl : lv_has ls 1 [(0, .ref h)] := hl
  refine lv_aload_n hx hb dX4_init_0 rfl (lv_at hl 0 rfl) ?_
  refine W.objInit hx hb hown (hts _ (List.mem_cons_of_mem _ oX4_link)) (hts _ (List.mem_cons_of_mem _ oInst)) (hts _ (List.mem_cons_of_mem _ oCode)) rfl (by rw [hml]; exact hl.1) rfl dX4_init_1 (Nat.le_of_ble_eq_true rfl) (Nat.le_of_ble_eq_true rfl) ?_
  refine W.eq (g2 := F0 m 4 ls []) rfl ?_
  refine lv_aload_n hx hb dX4_init_4 rfl (lv_at hl 0 rfl) ?_
  refine lv_sipush (v := 1920) hx hb dX4_init_5 (by decide) ?_
  refine va_newa (atype := .byte) (ty := .byte) (n := 1920) (a0 := (1920, .inl (fun _ => 0))) hx hb (hts _ (List.mem_cons_of_mem _ aByte)) rfl hK.1.1 hP hD hS hA (fun cA => rfl) (by decide) (by decide) (by decide) (Nat.le_of_ble_eq_true rfl) (Nat.le_of_ble_eq_true rfl) dX4_init_8 (fun q8 cA H hK1 hP hD hS => ?_)
  have e9 : cA = k 2 := ra_b (hK1.2 5 (cA, .byte) rfl).2 (hK1.2 2 (k 2, .byte) rfl).2
  subst e9
  have hP : va_P (dC, dI) vwCl [(h, .inr (4, [.null, .null, .int 0])), (q8, .inl (k 2, 1920, .inl (fun _ => 0)))] H := hP
  have hD : va_D A [(h, .inr (4, [.null, .null, .int 0])), (q8, .inl (k 2, 1920, .inl (fun _ => 0)))] := hD
  refine va_putF (D := (dC, dI)) (ci := 4) (C := RX4) (T := TX4) (N := 3) (v := .ref q8) hx hb hts (fun w h => List.mem_cons_of_mem _ (wlX4 w h)) tyX4 tyX4_ok nmX4 hown hK.1.1 hP hD hS 0 rfl rfl 0 (by decide) (hts _ (List.mem_cons_of_mem _ fX4_X4_letters)) (fun _ h9 => h9) rfl hin rfl (tyX4_ok 0 (by decide)) rfl rfl (Nat.le_of_ble_eq_true rfl) dX4_init_10 (fun H locs hP hD hS => ?_)
  have hP : va_P (dC, dI) vwCl [(h, .inr (4, [.ref q8, .null, .int 0])), (q8, .inl (k 2, 1920, .inl (fun _ => 0)))] H := hP
  have hD : va_D A [(h, .inr (4, [.ref q8, .null, .int 0])), (q8, .inl (k 2, 1920, .inl (fun _ => 0)))] := hD
  refine lv_aload_n hx hb dX4_init_13 rfl (lv_at hl 0 rfl) ?_
  refine lv_sipush (v := 192) hx hb dX4_init_14 (by decide) ?_
  refine va_newa (atype := .int) (ty := .int) (n := 192) (a0 := (192, .inl (fun _ => 0))) hx hb (hts _ (List.mem_cons_of_mem _ aInt)) rfl hK.1.1 hP hD hS hA (fun cA => rfl) (by decide) (by decide) (by decide) (Nat.le_of_ble_eq_true rfl) (Nat.le_of_ble_eq_true rfl) dX4_init_17 (fun q17 cA H hK1 hP hD hS => ?_)
  have e9 : cA = k 0 := ra_i (hK1.2 5 (cA, .int) rfl).2 (hK1.2 0 (k 0, .int) rfl).2
  subst e9
  have hP : va_P (dC, dI) vwCl [(h, .inr (4, [.ref q8, .null, .int 0])), (q8, .inl (k 2, 1920, .inl (fun _ => 0))), (q17, .inl (k 0, 192, .inl (fun _ => 0)))] H := hP
  have hD : va_D A [(h, .inr (4, [.ref q8, .null, .int 0])), (q8, .inl (k 2, 1920, .inl (fun _ => 0))), (q17, .inl (k 0, 192, .inl (fun _ => 0)))] := hD
  refine va_putF (D := (dC, dI)) (ci := 4) (C := RX4) (T := TX4) (N := 3) (v := .ref q17) hx hb hts (fun w h => List.mem_cons_of_mem _ (wlX4 w h)) tyX4 tyX4_ok nmX4 hown hK.1.1 hP hD hS 0 rfl rfl 1 (by decide) (hts _ (List.mem_cons_of_mem _ fX4_X4_lengths)) (fun _ h9 => h9) rfl hin rfl (tyX4_ok 1 (by decide)) rfl rfl (Nat.le_of_ble_eq_true rfl) dX4_init_19 (fun H locs hP hD hS => ?_)
  have hP : va_P (dC, dI) vwCl [(h, .inr (4, [.ref q8, .ref q17, .int 0])), (q8, .inl (k 2, 1920, .inl (fun _ => 0))), (q17, .inl (k 0, 192, .inl (fun _ => 0)))] H := hP
  have hD : va_D A [(h, .inr (4, [.ref q8, .ref q17, .int 0])), (q8, .inl (k 2, 1920, .inl (fun _ => 0))), (q17, .inl (k 0, 192, .inl (fun _ => 0)))] := hD
  refine lv_aload_n hx hb dX4_init_22 rfl (lv_at hl 0 rfl) ?_
  refine lv_iconst (v := 0) hx hb dX4_init_23 (by decide) ?_
  refine va_put (D := (dC, dI)) (ci := 4) (C := RX4) (T := TX4) (N := 3) (v := .int (0 : Int32)) hx hb hts (fun w h => List.mem_cons_of_mem _ (wlX4 w h)) tyX4 tyX4_ok nmX4 hown hK.1.1 hP hD hS 0 rfl rfl 2 (by decide) (hts _ (List.mem_cons_of_mem _ fX4_X4_size)) (fun _ h9 => h9) rfl (tyX4_ok 2 (by decide)) rfl rfl (Nat.le_of_ble_eq_true rfl) dX4_init_24 (fun H locs hP hD hS => ?_)
  have hP : va_P (dC, dI) vwCl [(h, .inr (4, [.ref q8, .ref q17, .int (0 : Int32)])), (q8, .inl (k 2, 1920, .inl (fun _ => 0))), (q17, .inl (k 0, 192, .inl (fun _ => 0)))] H := hP
  have hD : va_D A [(h, .inr (4, [.ref q8, .ref q17, .int (0 : Int32)])), (q8, .inl (k 2, 1920, .inl (fun _ => 0))), (q17, .inl (k 0, 192, .inl (fun _ => 0)))] := hD
  exact W.vret hx hb hr (fun t ht hW => ⟨⟨(fun j => if j = 0 then q8 else if j = 1 then q17 else 0), rfl, trivial, by rw [ht]; exact hP, hK.moved hW.alike, hD⟩, hS.F ht⟩) hS.2.2 dX4_init_27 hlk
def xAtClasses (dC : Nat → ClassId) (dI : Nat → Nat → Nat) (k : Nat → ClassId) (h : Nat) (A : Nat → Prop) (z : (Nat → Nat) × (Nat → Int32)) (t : State) : Prop := match z with
  | (u, g) => va_P (dC, dI) vwCl [(h, .inr (1, [.ref (u 0), .int (0 : Int32), .ref (u 1), .ref (u 2), .ref (u 3)])), ((u 0), .inl (k 4, 16, .inr (.inr (.inr (.inr (fun _ => none)))))), ((u 1), .inl (k 0, 192, .inl g)), ((u 2), .inl (k 0, 16, .inl (fun _ => 0))), ((u 3), .inl (k 1, 16, .inl (fun _ => 0)))] t.heap ∧ cK2 dC dI k t ∧ va_D A [(h, .inr (1, [.ref (u 0), .int (0 : Int32), .ref (u 1), .ref (u 2), .ref (u 3)])), ((u 0), .inl (k 4, 16, .inr (.inr (.inr (.inr (fun _ => none)))))), ((u 1), .inl (k 0, 192, .inl g)), ((u 2), .inl (k 0, 16, .inl (fun _ => 0))), ((u 3), .inl (k 1, 16, .inl (fun _ => 0)))]
set_option maxHeartbeats 8000000 in
set_option maxRecDepth 100000 in
theorem pC_X1_init (l : Launch) (dC : Nat → ClassId) (dI : Nat → Nat → Nat) (k : Nat → ClassId) (h sz : Nat) : Met l yX1_init wsX1_init { frames := 1, cells := 4, slots := 240, locals := 23 } (va_Pc [.ref h] (fun U => U.heap.size = sz ∧ va_P (dC, dI) vwCl [(h, .inr (1, [.null, .int 0, .null, .null, .null]))] U.heap ∧ cK2 dC dI k U ∧ va_D (fun _ => True) [(h, .inr (1, [.null, .int 0, .null, .null, .null]))])) (va_Qv (fun z : (Nat → Nat) × (Nat → Int32) => ∀ j, j < 192 → z.2 j = -1) (xAtClasses dC dI k h (va_A [(h, .inr (1, [.null, .int 0, .null, .null, .null]))] sz)) (va_A [(h, .inr (1, [.null, .int 0, .null, .null, .null]))] sz)) 4 240 (va_A [(h, .inr (1, [.null, .int 0, .null, .null, .null]))] sz) := by
  refine Met.ofW (cc := cX1_init) (maxL := 1) (ret := none) (by decide) rfl ?_
  intro p e s m args below meth c s₁ B hml hv
  obtain ⟨hargs, hsz, hP, hK, hD0⟩ := hv
  have hx := B.exec
  have hb := B.bytes
  have hr := B.returns
  have hlk := B.notSynchronized
  have hts := atoms_spec (ws := wsX1_init) B.pre
  have hown : s.vm.findClass RX1 = some m.cls := findClass_of_methodNamed B.named
  have hin : meth.name = "<init>" := (name_of_methodNamed B.named B.method).1
  subst hsz
  subst hargs
  have hD := hD0.self (sz := s.heap.size)
  generalize hAe : va_A [(h, .inr (1, [.null, .int 0, .null, .null, .null]))] s.heap.size = A at hD ⊢
  have hA : ∀ q : Nat, s.heap.size ≤ q → A q := fun q h => by rw [← hAe]; exact Or.inr h
  have hS : va_S A s.heap s.heap [] := va_S.rf
  have hl := lv_entry ([.ref h]) (n := 1) (Nat.le_of_ble_eq_true rfl)
  rw [lg_entry_eq]
  generalize (lg_sl ([.ref h]) ++ List.replicate (1 - (lg_sl ([.ref h])).length) Slot.unset).toArray = ls at hl ⊢
  have hl : lv_has ls 1 [(0, .ref h)] := hl
  refine lv_aload_n hx hb dX1_init_0 rfl (lv_at hl 0 rfl) ?_
  refine W.objInit hx hb hown (hts _ (List.mem_cons_of_mem _ oX1_link)) (hts _ (List.mem_cons_of_mem _ oInst)) (hts _ (List.mem_cons_of_mem _ oCode)) rfl (by rw [hml]; exact hl.1) rfl dX1_init_1 (Nat.le_of_ble_eq_true rfl) (Nat.le_of_ble_eq_true rfl) ?_
  refine W.eq (g2 := F0 m 4 ls []) rfl ?_
  refine lv_aload_n hx hb dX1_init_4 rfl (lv_at hl 0 rfl) ?_
  refine lv_bipush (v := 16) hx hb dX1_init_5 (by decide) ?_
  refine va_newq (C := "ClassFileIndex$ClassFile") (n := 16) (N' := 16) hx hb hown (hts _ (List.mem_cons_of_mem _ nX1_X0)) hK.2 hK.1.1 hP hD hS hA (by decide) (by decide) (by decide) (Nat.le_of_ble_eq_true rfl) (Nat.le_of_ble_eq_true rfl) dX1_init_7 (fun q7 cA H hK1 hP hD hS => ?_)
  have e9 : cA = k 4 := ra_o (hK1.2 5 (cA, .object "ClassFileIndex$ClassFile") rfl).2 (hK1.2 4 (k 4, .object "ClassFileIndex$ClassFile") rfl).2
  subst e9
  have hP : va_P (dC, dI) vwCl [(h, .inr (1, [.null, .int 0, .null, .null, .null])), (q7, .inl (k 4, 16, .inr (.inr (.inr (.inr (fun _ => none))))))] H := hP
  have hD : va_D A [(h, .inr (1, [.null, .int 0, .null, .null, .null])), (q7, .inl (k 4, 16, .inr (.inr (.inr (.inr (fun _ => none))))))] := hD
  refine va_putF (D := (dC, dI)) (ci := 1) (C := RX1) (T := TX1) (N := 5) (v := .ref q7) hx hb hts (fun w h => List.mem_cons_of_mem _ (wlX1 w h)) tyX1 tyX1_ok nmX1 hown hK.1.1 hP hD hS 0 rfl rfl 0 (by decide) (hts _ (List.mem_cons_of_mem _ fX1_X1_files)) (fun _ h9 => h9) rfl hin rfl (tyX1_ok 0 (by decide)) rfl rfl (Nat.le_of_ble_eq_true rfl) dX1_init_10 (fun H locs hP hD hS => ?_)
  have hP : va_P (dC, dI) vwCl [(h, .inr (1, [.ref q7, .int 0, .null, .null, .null])), (q7, .inl (k 4, 16, .inr (.inr (.inr (.inr (fun _ => none))))))] H := hP
  have hD : va_D A [(h, .inr (1, [.ref q7, .int 0, .null, .null, .null])), (q7, .inl (k 4, 16, .inr (.inr (.inr (.inr (fun _ => none))))))] := hD
  refine lv_aload_n hx hb dX1_init_13 rfl (lv_at hl 0 rfl) ?_
  refine lv_iconst (v := 0) hx hb dX1_init_14 (by decide) ?_
  refine va_put (D := (dC, dI)) (ci := 1) (C := RX1) (T := TX1) (N := 5) (v := .int (0 : Int32)) hx hb hts (fun w h => List.mem_cons_of_mem _ (wlX1 w h)) tyX1 tyX1_ok nmX1 hown hK.1.1 hP hD hS 0 rfl rfl 1 (by decide) (hts _ (List.mem_cons_of_mem _ fX1_X1_size)) (fun _ h9 => h9) rfl (tyX1_ok 1 (by decide)) rfl rfl (Nat.le_of_ble_eq_true rfl) dX1_init_15 (fun H locs hP hD hS => ?_)
  have hP : va_P (dC, dI) vwCl [(h, .inr (1, [.ref q7, .int (0 : Int32), .null, .null, .null])), (q7, .inl (k 4, 16, .inr (.inr (.inr (.inr (fun _ => none))))))] H := hP
  have hD : va_D A [(h, .inr (1, [.ref q7, .int (0 : Int32), .null, .null, .null])), (q7, .inl (k 4, 16, .inr (.inr (.inr (.inr (fun _ => none))))))] := hD
  refine lv_aload_n hx hb dX1_init_18 rfl (lv_at hl 0 rfl) ?_
  refine lv_sipush (v := 192) hx hb dX1_init_19 (by decide) ?_
  refine va_newa (atype := .int) (ty := .int) (n := 192) (a0 := (192, .inl (fun _ => 0))) hx hb (hts _ (List.mem_cons_of_mem _ aInt)) rfl hK.1.1 hP hD hS hA (fun cA => rfl) (by decide) (by decide) (by decide) (Nat.le_of_ble_eq_true rfl) (Nat.le_of_ble_eq_true rfl) dX1_init_22 (fun q22 cA H hK1 hP hD hS => ?_)
  have e9 : cA = k 0 := ra_i (hK1.2 5 (cA, .int) rfl).2 (hK1.2 0 (k 0, .int) rfl).2
  subst e9
  have hP : va_P (dC, dI) vwCl [(h, .inr (1, [.ref q7, .int (0 : Int32), .null, .null, .null])), (q7, .inl (k 4, 16, .inr (.inr (.inr (.inr (fun _ => none)))))), (q22, .inl (k 0, 192, .inl (fun _ => 0)))] H := hP
  have hD : va_D A [(h, .inr (1, [.ref q7, .int (0 : Int32), .null, .null, .null])), (q7, .inl (k 4, 16, .inr (.inr (.inr (.inr (fun _ => none)))))), (q22, .inl (k 0, 192, .inl (fun _ => 0)))] := hD
  refine va_putF (D := (dC, dI)) (ci := 1) (C := RX1) (T := TX1) (N := 5) (v := .ref q22) hx hb hts (fun w h => List.mem_cons_of_mem _ (wlX1 w h)) tyX1 tyX1_ok nmX1 hown hK.1.1 hP hD hS 0 rfl rfl 2 (by decide) (hts _ (List.mem_cons_of_mem _ fX1_X1_classOfText)) (fun _ h9 => h9) rfl hin rfl (tyX1_ok 2 (by decide)) rfl rfl (Nat.le_of_ble_eq_true rfl) dX1_init_24 (fun H locs hP hD hS => ?_)
  have hP : va_P (dC, dI) vwCl [(h, .inr (1, [.ref q7, .int (0 : Int32), .ref q22, .null, .null])), (q7, .inl (k 4, 16, .inr (.inr (.inr (.inr (fun _ => none)))))), (q22, .inl (k 0, 192, .inl (fun _ => 0)))] H := hP
  have hD : va_D A [(h, .inr (1, [.ref q7, .int (0 : Int32), .ref q22, .null, .null])), (q7, .inl (k 4, 16, .inr (.inr (.inr (.inr (fun _ => none)))))), (q22, .inl (k 0, 192, .inl (fun _ => 0)))] := hD
  refine lv_aload_n hx hb dX1_init_27 rfl (lv_at hl 0 rfl) ?_
  refine va_get (D := (dC, dI)) (ci := 1) (C := RX1) (T := TX1) (N := 5) (v := .ref q22) hx hb hts (fun w h => List.mem_cons_of_mem _ (wlX1 w h)) hown hK.1.1 hP 0 rfl rfl 2 (by decide) (hts _ (List.mem_cons_of_mem _ fX1_X1_classOfText)) (fun _ h9 => h9) rfl dX1_init_28 ?_
  refine lv_iconst (v := -1) hx hb dX1_init_31 (by decide) ?_
  have hPc := hP.sub (ws' := [(q22, .inl (k 0, 192, .inl (fun _ => 0)))]) [2] rfl
  have hDc := hD.sub (ws' := [(q22, .inl (k 0, 192, .inl (fun _ => 0)))]) [2] (by decide) rfl
  have hFc := va_free (wc := [(q22, .inl (k 0, 192, .inl (fun _ => 0)))]) hD hS hA [2] rfl
  refine va_callv (va_runS (As := [.ref q22, .int (-1 : Int32)]) (rest := []) ⟨hx, hb, hml, hown, hts⟩ (jC_fill l dC dI k q22 H.size 192 (by decide) (fun _ => 0) (-1 : Int32)) (va_cwS 2 hts gX1_fill rfl rfl rfl hdJ_fill ⟨Nat.le_of_ble_eq_true rfl, Nat.le_of_ble_eq_true rfl⟩) ⟨fun a U g mk q => by obtain ⟨q0, q1, qP, qK, qD⟩ := q; exact ⟨q0, q1, qP, cK2.moved (u := U) (U := U.calling g mk a) (Vm.Alike.refl U.vm) qK, qD⟩, fun U hU hW => ⟨rfl, by rw [hU], by rw [hU]; exact hPc, hK.moved hW.alike, hDc.weaken (fun _ _ _ _ => trivial)⟩⟩ rfl rfl hl.1 rfl (lv_room (Nat.le_of_ble_eq_true rfl)) dX1_init_32 ⟨Nat.le_of_ble_eq_true rfl, Nat.le_of_ble_eq_true rfl⟩) hS (fun q _ h => hFc q h) hFc (fun g32 t H1 locs ht hvm hw32 hB hz1 hk1 hS => ?_)
  obtain ⟨hP1, hK1, hD1⟩ := hB
  rw [ht] at hP1
  obtain ⟨hP, hD⟩ := va_join (wr := [(h, .inr (1, [.ref q7, .int (0 : Int32), .ref q22, .null, .null])), (q7, .inl (k 4, 16, .inr (.inr (.inr (.inr (fun _ => none))))))]) (w1 := [(q22, .inl (k 0, 192, .inl g32))]) hP hD [2] [0, 1] rfl rfl (by decide) (by decide) hk1 hFc hP1 hD1
  generalize H1 = H at hP hS ⊢
  have hP : va_P (dC, dI) vwCl [(h, .inr (1, [.ref q7, .int (0 : Int32), .ref q22, .null, .null])), (q7, .inl (k 4, 16, .inr (.inr (.inr (.inr (fun _ => none)))))), (q22, .inl (k 0, 192, .inl g32))] H := hP
  have hD : va_D A [(h, .inr (1, [.ref q7, .int (0 : Int32), .ref q22, .null, .null])), (q7, .inl (k 4, 16, .inr (.inr (.inr (.inr (fun _ => none)))))), (q22, .inl (k 0, 192, .inl g32))] := hD
  refine lv_aload_n hx hb dX1_init_35 rfl (lv_at hl 0 rfl) ?_
  refine lv_bipush (v := 16) hx hb dX1_init_36 (by decide) ?_
  refine va_newa (atype := .int) (ty := .int) (n := 16) (a0 := (16, .inl (fun _ => 0))) hx hb (hts _ (List.mem_cons_of_mem _ aInt)) rfl hK.1.1 hP hD hS hA (fun cA => rfl) (by decide) (by decide) (by decide) (Nat.le_of_ble_eq_true rfl) (Nat.le_of_ble_eq_true rfl) dX1_init_38 (fun q38 cA H hK1 hP hD hS => ?_)
  have e9 : cA = k 0 := ra_i (hK1.2 5 (cA, .int) rfl).2 (hK1.2 0 (k 0, .int) rfl).2
  subst e9
  have hP : va_P (dC, dI) vwCl [(h, .inr (1, [.ref q7, .int (0 : Int32), .ref q22, .null, .null])), (q7, .inl (k 4, 16, .inr (.inr (.inr (.inr (fun _ => none)))))), (q22, .inl (k 0, 192, .inl g32)), (q38, .inl (k 0, 16, .inl (fun _ => 0)))] H := hP
  have hD : va_D A [(h, .inr (1, [.ref q7, .int (0 : Int32), .ref q22, .null, .null])), (q7, .inl (k 4, 16, .inr (.inr (.inr (.inr (fun _ => none)))))), (q22, .inl (k 0, 192, .inl g32)), (q38, .inl (k 0, 16, .inl (fun _ => 0)))] := hD
  refine va_putF (D := (dC, dI)) (ci := 1) (C := RX1) (T := TX1) (N := 5) (v := .ref q38) hx hb hts (fun w h => List.mem_cons_of_mem _ (wlX1 w h)) tyX1 tyX1_ok nmX1 hown hK.1.1 hP hD hS 0 rfl rfl 3 (by decide) (hts _ (List.mem_cons_of_mem _ fX1_X1_queue)) (fun _ h9 => h9) rfl hin rfl (tyX1_ok 3 (by decide)) rfl rfl (Nat.le_of_ble_eq_true rfl) dX1_init_40 (fun H locs hP hD hS => ?_)
  have hP : va_P (dC, dI) vwCl [(h, .inr (1, [.ref q7, .int (0 : Int32), .ref q22, .ref q38, .null])), (q7, .inl (k 4, 16, .inr (.inr (.inr (.inr (fun _ => none)))))), (q22, .inl (k 0, 192, .inl g32)), (q38, .inl (k 0, 16, .inl (fun _ => 0)))] H := hP
  have hD : va_D A [(h, .inr (1, [.ref q7, .int (0 : Int32), .ref q22, .ref q38, .null])), (q7, .inl (k 4, 16, .inr (.inr (.inr (.inr (fun _ => none)))))), (q22, .inl (k 0, 192, .inl g32)), (q38, .inl (k 0, 16, .inl (fun _ => 0)))] := hD
  refine lv_aload_n hx hb dX1_init_43 rfl (lv_at hl 0 rfl) ?_
  refine lv_bipush (v := 16) hx hb dX1_init_44 (by decide) ?_
  refine va_newa (atype := .boolean) (ty := .boolean) (n := 16) (a0 := (16, .inl (fun _ => 0))) hx hb (hts _ (List.mem_cons_of_mem _ aBoolean)) rfl hK.1.1 hP hD hS hA (fun cA => rfl) (by decide) (by decide) (by decide) (Nat.le_of_ble_eq_true rfl) (Nat.le_of_ble_eq_true rfl) dX1_init_46 (fun q46 cA H hK1 hP hD hS => ?_)
  have e9 : cA = k 1 := ra_z (hK1.2 5 (cA, .boolean) rfl).2 (hK1.2 1 (k 1, .boolean) rfl).2
  subst e9
  have hP : va_P (dC, dI) vwCl [(h, .inr (1, [.ref q7, .int (0 : Int32), .ref q22, .ref q38, .null])), (q7, .inl (k 4, 16, .inr (.inr (.inr (.inr (fun _ => none)))))), (q22, .inl (k 0, 192, .inl g32)), (q38, .inl (k 0, 16, .inl (fun _ => 0))), (q46, .inl (k 1, 16, .inl (fun _ => 0)))] H := hP
  have hD : va_D A [(h, .inr (1, [.ref q7, .int (0 : Int32), .ref q22, .ref q38, .null])), (q7, .inl (k 4, 16, .inr (.inr (.inr (.inr (fun _ => none)))))), (q22, .inl (k 0, 192, .inl g32)), (q38, .inl (k 0, 16, .inl (fun _ => 0))), (q46, .inl (k 1, 16, .inl (fun _ => 0)))] := hD
  refine va_putF (D := (dC, dI)) (ci := 1) (C := RX1) (T := TX1) (N := 5) (v := .ref q46) hx hb hts (fun w h => List.mem_cons_of_mem _ (wlX1 w h)) tyX1 tyX1_ok nmX1 hown hK.1.1 hP hD hS 0 rfl rfl 4 (by decide) (hts _ (List.mem_cons_of_mem _ fX1_X1_queued)) (fun _ h9 => h9) rfl hin rfl (tyX1_ok 4 (by decide)) rfl rfl (Nat.le_of_ble_eq_true rfl) dX1_init_48 (fun H locs hP hD hS => ?_)
  have hP : va_P (dC, dI) vwCl [(h, .inr (1, [.ref q7, .int (0 : Int32), .ref q22, .ref q38, .ref q46])), (q7, .inl (k 4, 16, .inr (.inr (.inr (.inr (fun _ => none)))))), (q22, .inl (k 0, 192, .inl g32)), (q38, .inl (k 0, 16, .inl (fun _ => 0))), (q46, .inl (k 1, 16, .inl (fun _ => 0)))] H := hP
  have hD : va_D A [(h, .inr (1, [.ref q7, .int (0 : Int32), .ref q22, .ref q38, .ref q46])), (q7, .inl (k 4, 16, .inr (.inr (.inr (.inr (fun _ => none)))))), (q22, .inl (k 0, 192, .inl g32)), (q38, .inl (k 0, 16, .inl (fun _ => 0))), (q46, .inl (k 1, 16, .inl (fun _ => 0)))] := hD
  exact W.vret hx hb hr (fun t ht hW => ⟨⟨((fun j => if j = 0 then q7 else if j = 1 then q22 else if j = 2 then q38 else if j = 3 then q46 else 0), g32), rfl, hw32, by rw [ht]; exact hP, hK.moved hW.alike, hD⟩, hS.F ht⟩) hS.2.2 dX1_init_51 hlk
def xAtReader (dC : Nat → ClassId) (dI : Nat → Nat → Nat) (k : Nat → ClassId) (h : Nat) (A : Nat → Prop) (u : Nat → Nat) (t : State) : Prop := va_P (dC, dI) vwCl [(h, .inr (3, [.int 0, .null, .int 0, .int 0, .null, .null, .int 0, .ref (u 0), .ref (u 1), .ref (u 2), .ref (u 3)])), ((u 0), .inl (k 0, 13, .inl (fun _ => 0))), ((u 1), .inl (k 0, 13, .inl (fun _ => 0))), ((u 2), .inl (k 0, 13, .inl (fun _ => 0))), ((u 3), .inr (2, [.ref (u 4), .ref (u 5)])), ((u 4), .inl (k 0, 0, .inl (fun _ => 0))), ((u 5), .inl (k 3, 0, .inr (.inr (.inr (.inr (fun _ => none))))))] t.heap ∧ cK2 dC dI k t ∧ va_D A [(h, .inr (3, [.int 0, .null, .int 0, .int 0, .null, .null, .int 0, .ref (u 0), .ref (u 1), .ref (u 2), .ref (u 3)])), ((u 0), .inl (k 0, 13, .inl (fun _ => 0))), ((u 1), .inl (k 0, 13, .inl (fun _ => 0))), ((u 2), .inl (k 0, 13, .inl (fun _ => 0))), ((u 3), .inr (2, [.ref (u 4), .ref (u 5)])), ((u 4), .inl (k 0, 0, .inl (fun _ => 0))), ((u 5), .inl (k 3, 0, .inr (.inr (.inr (.inr (fun _ => none))))))]
set_option maxHeartbeats 8000000 in
set_option maxRecDepth 100000 in
theorem pC_X3_init (l : Launch) (dC : Nat → ClassId) (dI : Nat → Nat → Nat) (k : Nat → ClassId) (h sz : Nat) : Met l yX3_init wsX3_init { frames := 2, cells := 6, slots := 41, locals := 41 } (va_Pc [.ref h] (fun U => U.heap.size = sz ∧ va_P (dC, dI) vwCl [(h, .inr (3, [.int 0, .null, .int 0, .int 0, .null, .null, .int 0, .null, .null, .null, .null]))] U.heap ∧ cK2 dC dI k U ∧ va_D (fun _ => True) [(h, .inr (3, [.int 0, .null, .int 0, .int 0, .null, .null, .int 0, .null, .null, .null, .null]))])) (va_Qv (fun _ : Nat → Nat => True) (xAtReader dC dI k h (va_A [(h, .inr (3, [.int 0, .null, .int 0, .int 0, .null, .null, .int 0, .null, .null, .null, .null]))] sz)) (va_A [(h, .inr (3, [.int 0, .null, .int 0, .int 0, .null, .null, .int 0, .null, .null, .null, .null]))] sz)) 6 41 (va_A [(h, .inr (3, [.int 0, .null, .int 0, .int 0, .null, .null, .int 0, .null, .null, .null, .null]))] sz) := by
  refine Met.ofW (cc := cX3_init) (maxL := 1) (ret := none) (by decide) rfl ?_
  intro p e s m args below meth c s₁ B hml hv
  obtain ⟨hargs, hsz, hP, hK, hD0⟩ := hv
  have hx := B.exec
  have hb := B.bytes
  have hr := B.returns
  have hlk := B.notSynchronized
  have hts := atoms_spec (ws := wsX3_init) B.pre
  have hown : s.vm.findClass RX3 = some m.cls := findClass_of_methodNamed B.named
  have hin : meth.name = "<init>" := (name_of_methodNamed B.named B.method).1
  subst hsz
  subst hargs
  have hD := hD0.self (sz := s.heap.size)
  generalize hAe : va_A [(h, .inr (3, [.int 0, .null, .int 0, .int 0, .null, .null, .int 0, .null, .null, .null, .null]))] s.heap.size = A at hD ⊢
  have hA : ∀ q : Nat, s.heap.size ≤ q → A q := fun q h => by rw [← hAe]; exact Or.inr h
  have hS : va_S A s.heap s.heap [] := va_S.rf
  have hl := lv_entry ([.ref h]) (n := 1) (Nat.le_of_ble_eq_true rfl)
  rw [lg_entry_eq]
  generalize (lg_sl ([.ref h]) ++ List.replicate (1 - (lg_sl ([.ref h])).length) Slot.unset).toArray = ls at hl ⊢
  have hl : lv_has ls 1 [(0, .ref h)] := hl
  refine lv_aload_n hx hb dX3_init_0 rfl (lv_at hl 0 rfl) ?_
  refine W.objInit hx hb hown (hts _ (List.mem_cons_of_mem _ oX3_link)) (hts _ (List.mem_cons_of_mem _ oInst)) (hts _ (List.mem_cons_of_mem _ oCode)) rfl (by rw [hml]; exact hl.1) rfl dX3_init_1 (Nat.le_of_ble_eq_true rfl) (Nat.le_of_ble_eq_true rfl) ?_
  refine W.eq (g2 := F0 m 4 ls []) rfl ?_
  refine lv_aload_n hx hb dX3_init_4 rfl (lv_at hl 0 rfl) ?_
  refine lv_bipush (v := 13) hx hb dX3_init_5 (by decide) ?_
  refine va_newa (atype := .int) (ty := .int) (n := 13) (a0 := (13, .inl (fun _ => 0))) hx hb (hts _ (List.mem_cons_of_mem _ aInt)) rfl hK.1.1 hP hD hS hA (fun cA => rfl) (by decide) (by decide) (by decide) (Nat.le_of_ble_eq_true rfl) (Nat.le_of_ble_eq_true rfl) dX3_init_7 (fun q7 cA H hK1 hP hD hS => ?_)
  have e9 : cA = k 0 := ra_i (hK1.2 5 (cA, .int) rfl).2 (hK1.2 0 (k 0, .int) rfl).2
  subst e9
  have hP : va_P (dC, dI) vwCl [(h, .inr (3, [.int 0, .null, .int 0, .int 0, .null, .null, .int 0, .null, .null, .null, .null])), (q7, .inl (k 0, 13, .inl (fun _ => 0)))] H := hP
  have hD : va_D A [(h, .inr (3, [.int 0, .null, .int 0, .int 0, .null, .null, .int 0, .null, .null, .null, .null])), (q7, .inl (k 0, 13, .inl (fun _ => 0)))] := hD
  refine va_putF (D := (dC, dI)) (ci := 3) (C := RX3) (T := TX3) (N := 11) (v := .ref q7) hx hb hts (fun w h => List.mem_cons_of_mem _ (wlX3 w h)) tyX3 tyX3_ok nmX3 hown hK.1.1 hP hD hS 0 rfl rfl 7 (by decide) (hts _ (List.mem_cons_of_mem _ fX3_X3_kinds)) (fun _ h9 => h9) rfl hin rfl (tyX3_ok 7 (by decide)) rfl rfl (Nat.le_of_ble_eq_true rfl) dX3_init_9 (fun H locs hP hD hS => ?_)
  have hP : va_P (dC, dI) vwCl [(h, .inr (3, [.int 0, .null, .int 0, .int 0, .null, .null, .int 0, .ref q7, .null, .null, .null])), (q7, .inl (k 0, 13, .inl (fun _ => 0)))] H := hP
  have hD : va_D A [(h, .inr (3, [.int 0, .null, .int 0, .int 0, .null, .null, .int 0, .ref q7, .null, .null, .null])), (q7, .inl (k 0, 13, .inl (fun _ => 0)))] := hD
  refine lv_aload_n hx hb dX3_init_12 rfl (lv_at hl 0 rfl) ?_
  refine lv_bipush (v := 13) hx hb dX3_init_13 (by decide) ?_
  refine va_newa (atype := .int) (ty := .int) (n := 13) (a0 := (13, .inl (fun _ => 0))) hx hb (hts _ (List.mem_cons_of_mem _ aInt)) rfl hK.1.1 hP hD hS hA (fun cA => rfl) (by decide) (by decide) (by decide) (Nat.le_of_ble_eq_true rfl) (Nat.le_of_ble_eq_true rfl) dX3_init_15 (fun q15 cA H hK1 hP hD hS => ?_)
  have e9 : cA = k 0 := ra_i (hK1.2 5 (cA, .int) rfl).2 (hK1.2 0 (k 0, .int) rfl).2
  subst e9
  have hP : va_P (dC, dI) vwCl [(h, .inr (3, [.int 0, .null, .int 0, .int 0, .null, .null, .int 0, .ref q7, .null, .null, .null])), (q7, .inl (k 0, 13, .inl (fun _ => 0))), (q15, .inl (k 0, 13, .inl (fun _ => 0)))] H := hP
  have hD : va_D A [(h, .inr (3, [.int 0, .null, .int 0, .int 0, .null, .null, .int 0, .ref q7, .null, .null, .null])), (q7, .inl (k 0, 13, .inl (fun _ => 0))), (q15, .inl (k 0, 13, .inl (fun _ => 0)))] := hD
  refine va_putF (D := (dC, dI)) (ci := 3) (C := RX3) (T := TX3) (N := 11) (v := .ref q15) hx hb hts (fun w h => List.mem_cons_of_mem _ (wlX3 w h)) tyX3 tyX3_ok nmX3 hown hK.1.1 hP hD hS 0 rfl rfl 8 (by decide) (hts _ (List.mem_cons_of_mem _ fX3_X3_numbers)) (fun _ h9 => h9) rfl hin rfl (tyX3_ok 8 (by decide)) rfl rfl (Nat.le_of_ble_eq_true rfl) dX3_init_17 (fun H locs hP hD hS => ?_)
  have hP : va_P (dC, dI) vwCl [(h, .inr (3, [.int 0, .null, .int 0, .int 0, .null, .null, .int 0, .ref q7, .ref q15, .null, .null])), (q7, .inl (k 0, 13, .inl (fun _ => 0))), (q15, .inl (k 0, 13, .inl (fun _ => 0)))] H := hP
  have hD : va_D A [(h, .inr (3, [.int 0, .null, .int 0, .int 0, .null, .null, .int 0, .ref q7, .ref q15, .null, .null])), (q7, .inl (k 0, 13, .inl (fun _ => 0))), (q15, .inl (k 0, 13, .inl (fun _ => 0)))] := hD
  refine lv_aload_n hx hb dX3_init_20 rfl (lv_at hl 0 rfl) ?_
  refine lv_bipush (v := 13) hx hb dX3_init_21 (by decide) ?_
  refine va_newa (atype := .int) (ty := .int) (n := 13) (a0 := (13, .inl (fun _ => 0))) hx hb (hts _ (List.mem_cons_of_mem _ aInt)) rfl hK.1.1 hP hD hS hA (fun cA => rfl) (by decide) (by decide) (by decide) (Nat.le_of_ble_eq_true rfl) (Nat.le_of_ble_eq_true rfl) dX3_init_23 (fun q23 cA H hK1 hP hD hS => ?_)
  have e9 : cA = k 0 := ra_i (hK1.2 5 (cA, .int) rfl).2 (hK1.2 0 (k 0, .int) rfl).2
  subst e9
  have hP : va_P (dC, dI) vwCl [(h, .inr (3, [.int 0, .null, .int 0, .int 0, .null, .null, .int 0, .ref q7, .ref q15, .null, .null])), (q7, .inl (k 0, 13, .inl (fun _ => 0))), (q15, .inl (k 0, 13, .inl (fun _ => 0))), (q23, .inl (k 0, 13, .inl (fun _ => 0)))] H := hP
  have hD : va_D A [(h, .inr (3, [.int 0, .null, .int 0, .int 0, .null, .null, .int 0, .ref q7, .ref q15, .null, .null])), (q7, .inl (k 0, 13, .inl (fun _ => 0))), (q15, .inl (k 0, 13, .inl (fun _ => 0))), (q23, .inl (k 0, 13, .inl (fun _ => 0)))] := hD
  refine va_putF (D := (dC, dI)) (ci := 3) (C := RX3) (T := TX3) (N := 11) (v := .ref q23) hx hb hts (fun w h => List.mem_cons_of_mem _ (wlX3 w h)) tyX3 tyX3_ok nmX3 hown hK.1.1 hP hD hS 0 rfl rfl 9 (by decide) (hts _ (List.mem_cons_of_mem _ fX3_X3_places)) (fun _ h9 => h9) rfl hin rfl (tyX3_ok 9 (by decide)) rfl rfl (Nat.le_of_ble_eq_true rfl) dX3_init_25 (fun H locs hP hD hS => ?_)
  have hP : va_P (dC, dI) vwCl [(h, .inr (3, [.int 0, .null, .int 0, .int 0, .null, .null, .int 0, .ref q7, .ref q15, .ref q23, .null])), (q7, .inl (k 0, 13, .inl (fun _ => 0))), (q15, .inl (k 0, 13, .inl (fun _ => 0))), (q23, .inl (k 0, 13, .inl (fun _ => 0)))] H := hP
  have hD : va_D A [(h, .inr (3, [.int 0, .null, .int 0, .int 0, .null, .null, .int 0, .ref q7, .ref q15, .ref q23, .null])), (q7, .inl (k 0, 13, .inl (fun _ => 0))), (q15, .inl (k 0, 13, .inl (fun _ => 0))), (q23, .inl (k 0, 13, .inl (fun _ => 0)))] := hD
  refine lv_aload_n hx hb dX3_init_28 rfl (lv_at hl 0 rfl) ?_
  refine va_new (D := (dC, dI)) (ci := 2) (C := RX2) (T := TX2) (N := 2) (fs := [.null, .null]) hx hb hts (fun w h => List.mem_cons_of_mem _ (wlX2 w h)) tyX2 tyX2_ok hown (hts _ (List.mem_cons_of_mem _ nX3_X2)) (hts _ (List.mem_cons_of_mem _ sX2)) (hts _ (List.mem_cons_of_mem _ iX2)) hK.1.1 hP hD hS hA rfl (fun j hj => by rcases (show j = 0 ∨ j = 1 by omega) with rfl | rfl <;> rfl) (Nat.le_of_ble_eq_true rfl) (Nat.le_of_ble_eq_true rfl) dX3_init_29 (fun q29 H hP hD hS => ?_)
  have hP : va_P (dC, dI) vwCl [(h, .inr (3, [.int 0, .null, .int 0, .int 0, .null, .null, .int 0, .ref q7, .ref q15, .ref q23, .null])), (q7, .inl (k 0, 13, .inl (fun _ => 0))), (q15, .inl (k 0, 13, .inl (fun _ => 0))), (q23, .inl (k 0, 13, .inl (fun _ => 0))), (q29, .inr (2, [.null, .null]))] H := hP
  have hD : va_D A [(h, .inr (3, [.int 0, .null, .int 0, .int 0, .null, .null, .int 0, .ref q7, .ref q15, .ref q23, .null])), (q7, .inl (k 0, 13, .inl (fun _ => 0))), (q15, .inl (k 0, 13, .inl (fun _ => 0))), (q23, .inl (k 0, 13, .inl (fun _ => 0))), (q29, .inr (2, [.null, .null]))] := hD
  refine lv_dup hx hb dX3_init_32 rfl ?_
  refine lv_iconst (v := 0) hx hb dX3_init_33 (by decide) ?_
  have hPc := hP.sub (ws' := [(q29, .inr (2, [.null, .null]))]) [4] rfl
  have hDc := hD.sub (ws' := [(q29, .inr (2, [.null, .null]))]) [4] (by decide) rfl
  have hFc := va_free (wc := [(q29, .inr (2, [.null, .null]))]) hD hS hA [4] rfl
  refine va_callv (va_runI (As := [.int (0 : Int32)]) (rest := [.ref q29, .ref h]) ⟨hx, hb, hml, hown, hts⟩ (pC_X2_init l dC dI k q29 H.size) (cwI 1 hts (gG kX2_init rfl) rfl rfl rfl (hts _ (List.mem_cons_of_mem _ iX2)) (hts _ (List.mem_cons_of_mem _ gX3_X2_init)) (hts _ (List.mem_cons_of_mem _ uX2_init)) rfl hdX2_init ⟨Nat.le_of_ble_eq_true rfl, Nat.le_of_ble_eq_true rfl⟩) ⟨fun a U g mk q => by obtain ⟨q0, q1, qP, qK, qD⟩ := q; exact ⟨q0, q1, qP, cK2.moved (u := U) (U := U.calling g mk a) (Vm.Alike.refl U.vm) qK, qD⟩, fun U hU hW => ⟨rfl, by rw [hU], by rw [hU]; exact hPc, hK.moved hW.alike, hDc.weaken (fun _ _ _ _ => trivial)⟩⟩ rfl rfl hl.1 rfl (lv_room (Nat.le_of_ble_eq_true rfl)) dX3_init_34 ⟨Nat.le_of_ble_eq_true rfl, Nat.le_of_ble_eq_true rfl⟩) hS (fun q _ h => hFc q h) hFc (fun u34 t H1 locs ht hvm hw34 hB hz1 hk1 hS => ?_)
  obtain ⟨hP1, hK1, hD1⟩ := hB
  rw [ht] at hP1
  obtain ⟨hP, hD⟩ := va_join (wr := [(h, .inr (3, [.int 0, .null, .int 0, .int 0, .null, .null, .int 0, .ref q7, .ref q15, .ref q23, .null])), (q7, .inl (k 0, 13, .inl (fun _ => 0))), (q15, .inl (k 0, 13, .inl (fun _ => 0))), (q23, .inl (k 0, 13, .inl (fun _ => 0)))]) (w1 := [(q29, .inr (2, [.ref (u34 0), .ref (u34 1)])), ((u34 0), .inl (k 0, 0, .inl (fun _ => 0))), ((u34 1), .inl (k 3, 0, .inr (.inr (.inr (.inr (fun _ => none))))))]) hP hD [4] [0, 1, 2, 3] rfl rfl (by decide) (by decide) hk1 hFc hP1 hD1
  generalize H1 = H at hP hS ⊢
  have hP : va_P (dC, dI) vwCl [(h, .inr (3, [.int 0, .null, .int 0, .int 0, .null, .null, .int 0, .ref q7, .ref q15, .ref q23, .null])), (q7, .inl (k 0, 13, .inl (fun _ => 0))), (q15, .inl (k 0, 13, .inl (fun _ => 0))), (q23, .inl (k 0, 13, .inl (fun _ => 0))), (q29, .inr (2, [.ref (u34 0), .ref (u34 1)])), ((u34 0), .inl (k 0, 0, .inl (fun _ => 0))), ((u34 1), .inl (k 3, 0, .inr (.inr (.inr (.inr (fun _ => none))))))] H := hP
  have hD : va_D A [(h, .inr (3, [.int 0, .null, .int 0, .int 0, .null, .null, .int 0, .ref q7, .ref q15, .ref q23, .null])), (q7, .inl (k 0, 13, .inl (fun _ => 0))), (q15, .inl (k 0, 13, .inl (fun _ => 0))), (q23, .inl (k 0, 13, .inl (fun _ => 0))), (q29, .inr (2, [.ref (u34 0), .ref (u34 1)])), ((u34 0), .inl (k 0, 0, .inl (fun _ => 0))), ((u34 1), .inl (k 3, 0, .inr (.inr (.inr (.inr (fun _ => none))))))] := hD
  refine va_putF (D := (dC, dI)) (ci := 3) (C := RX3) (T := TX3) (N := 11) (v := .ref q29) hx hb hts (fun w h => List.mem_cons_of_mem _ (wlX3 w h)) tyX3 tyX3_ok nmX3 hown hK.1.1 hP hD hS 0 rfl rfl 10 (by decide) (hts _ (List.mem_cons_of_mem _ fX3_X3_noParts)) (fun _ h9 => h9) rfl hin rfl (tyX3_ok 10 (by decide)) rfl rfl (Nat.le_of_ble_eq_true rfl) dX3_init_37 (fun H locs hP hD hS => ?_)
  have hP : va_P (dC, dI) vwCl [(h, .inr (3, [.int 0, .null, .int 0, .int 0, .null, .null, .int 0, .ref q7, .ref q15, .ref q23, .ref q29])), (q7, .inl (k 0, 13, .inl (fun _ => 0))), (q15, .inl (k 0, 13, .inl (fun _ => 0))), (q23, .inl (k 0, 13, .inl (fun _ => 0))), (q29, .inr (2, [.ref (u34 0), .ref (u34 1)])), ((u34 0), .inl (k 0, 0, .inl (fun _ => 0))), ((u34 1), .inl (k 3, 0, .inr (.inr (.inr (.inr (fun _ => none))))))] H := hP
  have hD : va_D A [(h, .inr (3, [.int 0, .null, .int 0, .int 0, .null, .null, .int 0, .ref q7, .ref q15, .ref q23, .ref q29])), (q7, .inl (k 0, 13, .inl (fun _ => 0))), (q15, .inl (k 0, 13, .inl (fun _ => 0))), (q23, .inl (k 0, 13, .inl (fun _ => 0))), (q29, .inr (2, [.ref (u34 0), .ref (u34 1)])), ((u34 0), .inl (k 0, 0, .inl (fun _ => 0))), ((u34 1), .inl (k 3, 0, .inr (.inr (.inr (.inr (fun _ => none))))))] := hD
  exact W.vret hx hb hr (fun t ht hW => ⟨⟨(fun j => if j = 0 then q7 else if j = 1 then q15 else if j = 2 then q23 else if j = 3 then q29 else if j = 4 then (u34 0) else if j = 5 then (u34 1) else 0), rfl, trivial, by rw [ht]; exact hP, hK.moved hW.alike, hD⟩, hS.F ht⟩) hS.2.2 dX3_init_40 hlk
