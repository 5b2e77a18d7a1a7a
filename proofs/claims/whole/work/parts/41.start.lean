/-- what is left, over numbers and lists alone: the law's loop from a new object and a new reference -/
def LawPure : Prop := ∀ (b : Nat → Nat) (k : Nat → ClassId) (g : Nat → Int32) (L : Nat) (xs : Nat → Int32), L ≤ 2560 → (∀ j, j < 192 → g j = -1) → L_law_b18 b k L xs 600000 7302250 True (0 : Int32) 36 5867 (cS0 b k g, rS0)
set_option maxRecDepth 20000 in
theorem sX7 : Cond.instantiable RX7 28 ∈ wG := wG_in (wT2 (List.mem_of_getElem? (i := 209) (by decide +kernel))) rfl
set_option maxHeartbeats 4000000 in
set_option maxRecDepth 100000 in
/-- the classes' numbers and the arrays' classes, at the law's entry -/
theorem law_K {s : State} {args : Array Value} (hL : ∀ w ∈ lw_tbl, w.before args s = true) : ∃ (dC : Nat → ClassId) (dI : Nat → Nat → Nat) (k : Nat → ClassId), cK2 dC dI k s := by
  have hG : ∀ w ∈ wG, w.before args s = true := fun w hw => hL w (List.mem_filter.mp hw).1
  have arr : ∀ (ty : FieldType), (Cond.arrayClass ty).before args s = true → (∀ C, ty ≠ .object C) → ∃ cA : ClassId, ArrOfT s cA ty ∧ va_RA s cA ty := by
    intro ty h hne
    obtain ⟨cA, kA, comp, h1, h2, h3⟩ := Cond.arrayClass_spec h
    refine ⟨cA, fun n z => ⟨fun k h => (by cases h), kA, h2, comp, h3⟩, ?_⟩
    cases ty <;> first | exact h1 | exact absurd rfl (hne _)
  have arrO : ∀ C : String, (Cond.arrayOver (.object C)).before args s = true → ∃ cA : ClassId, ArrOfT s cA (.object C) ∧ va_RA s cA (.object C) := by
    intro C h
    obtain ⟨comp, cA, kA, h1, h2, h3, h4, h5⟩ := Cond.arrayOver_spec h
    exact ⟨cA, fun n z => ⟨fun k h => (by cases h), kA, h3, comp, h4⟩, kA, comp, h3, h4, h1, h5⟩
  have oV : (Cond.arrayOver (.object "ClassFileIndex$Value")).before args s = true := hL _ (List.mem_append_right _ (wT1 (List.mem_of_getElem? (i := 81) (by decide +kernel))))
  have oF : (Cond.arrayOver (.object "ClassFileIndex$ClassFile")).before args s = true := hL _ (List.mem_append_right _ (wT1 (List.mem_of_getElem? (i := 45) (by decide +kernel))))
  obtain ⟨k0, a0⟩ := arr .int (hG _ aInt) (fun C h => by cases h)
  obtain ⟨k1, a1⟩ := arr .boolean (hG _ aBoolean) (fun C h => by cases h)
  obtain ⟨k2, a2⟩ := arr .byte (hG _ aByte) (fun C h => by cases h)
  obtain ⟨k3, a3⟩ := arrO _ oV
  obtain ⟨k4, a4⟩ := arrO _ oF
  obtain ⟨c0, i0, hk0⟩ := u_known (T := TX0) (N := 8) hG wlX0 (hG _ sX0)
  obtain ⟨c1, i1, hk1⟩ := u_known (T := TX1) (N := 5) hG wlX1 (hG _ sX1)
  obtain ⟨c2, i2, hk2⟩ := u_known (T := TX2) (N := 2) hG wlX2 (hG _ sX2)
  obtain ⟨c3, i3, hk3⟩ := u_known (T := TX3) (N := 11) hG wlX3 (hG _ sX3)
  obtain ⟨c4, i4, hk4⟩ := u_known (T := TX4) (N := 3) hG wlX4 (hG _ sX4)
  obtain ⟨c5, i5, hk5⟩ := u_known (T := TX5) (N := 3) hG wlX5 (hG _ sX5)
  obtain ⟨c6, i6, hk6⟩ := u_known (T := TX6) (N := 5) hG wlX6 (hG _ sX6)
  obtain ⟨c7, i7, hk7⟩ := u_known (T := TX7) (N := 28) hG wlX7 (hG _ sX7)
  refine ⟨fun z => if z = 0 then c0 else if z = 1 then c1 else if z = 2 then c2 else if z = 3 then c3 else if z = 4 then c4 else if z = 5 then c5 else if z = 6 then c6 else c7, fun z => if z = 0 then i0 else if z = 1 then i1 else if z = 2 then i2 else if z = 3 then i3 else if z = 4 then i4 else if z = 5 then i5 else if z = 6 then i6 else i7, fun z => if z = 0 then k0 else if z = 1 then k1 else if z = 2 then k2 else if z = 3 then k3 else k4, ⟨⟨fun c q hq => ?_, fun c q hq => ?_⟩, va_AO.of oV⟩, va_AO.of oF⟩
  · have hc : c < 8 := (List.getElem?_eq_some_iff.mp hq).1
    rcases (show c = 0 ∨ c = 1 ∨ c = 2 ∨ c = 3 ∨ c = 4 ∨ c = 5 ∨ c = 6 ∨ c = 7 by omega) with rfl | rfl | rfl | rfl | rfl | rfl | rfl | rfl
    · have e9 := Option.some.inj (show some (RX0, TX0, 8) = some q from hq); subst e9; exact hk0
    · have e9 := Option.some.inj (show some (RX1, TX1, 5) = some q from hq); subst e9; exact hk1
    · have e9 := Option.some.inj (show some (RX2, TX2, 2) = some q from hq); subst e9; exact hk2
    · have e9 := Option.some.inj (show some (RX3, TX3, 11) = some q from hq); subst e9; exact hk3
    · have e9 := Option.some.inj (show some (RX4, TX4, 3) = some q from hq); subst e9; exact hk4
    · have e9 := Option.some.inj (show some (RX5, TX5, 3) = some q from hq); subst e9; exact hk5
    · have e9 := Option.some.inj (show some (RX6, TX6, 5) = some q from hq); subst e9; exact hk6
    · have e9 := Option.some.inj (show some (RX7, TX7, 28) = some q from hq); subst e9; exact hk7
  · have hc : c < 5 := (List.getElem?_eq_some_iff.mp hq).1
    rcases (show c = 0 ∨ c = 1 ∨ c = 2 ∨ c = 3 ∨ c = 4 by omega) with rfl | rfl | rfl | rfl | rfl
    · have e9 := Option.some.inj (show some (k0, FieldType.int) = some q from hq); subst e9; exact a0
    · have e9 := Option.some.inj (show some (k1, FieldType.boolean) = some q from hq); subst e9; exact a1
    · have e9 := Option.some.inj (show some (k2, FieldType.byte) = some q from hq); subst e9; exact a2
    · have e9 := Option.some.inj (show some (k3, FieldType.object "ClassFileIndex$Value") = some q from hq); subst e9; exact a3
    · have e9 := Option.some.inj (show some (k4, FieldType.object "ClassFileIndex$ClassFile") = some q from hq); subst e9; exact a4
set_option maxHeartbeats 8000000 in
set_option maxRecDepth 100000 in
theorem whole_start_open {p : Program} {e : Env} {s : State} {m : MethodId} {below : List Frame} {meth : Method} {c : Code} (hpure : LawPure) (l : Launch) {sb L : Nat} {xs : Nat → Int32} (hL : L ≤ 2560) (C0 : lw_At p s m meth c sb L xs) : W p l e room_1 s m #[Value.ref sb] below meth c s.heap [] 0 0 (lw_Z below #[Value.ref sb] s) (entryFrame m ([Value.ref sb] : List Value).toArray 4) := by
  obtain ⟨hx, hb, hr, hml, hown, hL0, hX, hsb, hlk, -⟩ := C0
  obtain ⟨dC, dI, k, hK⟩ := law_K hL0
  have hts : ∀ w ∈ (Cond.arrayClass .int :: wG), w.before #[Value.ref sb] s = true := fun w hw => (List.mem_cons.mp hw).elim (fun e => by rw [e]; exact hL0 _ (List.mem_filter.mp aInt).1) (fun hw => hL0 w (List.mem_filter.mp hw).1)
  obtain ⟨A, hAd⟩ : ∃ A : Nat → Prop, A = fun q => s.heap.size ≤ q := ⟨_, rfl⟩
  have hA : ∀ q : Nat, s.heap.size ≤ q → A q := fun q h => by rw [hAd]; exact h
  have hA2 : ∀ q : Nat, A q → s.heap.size ≤ q := fun q h => by rw [hAd] at h; exact h
  have hsA : ¬ A sb := fun h => by have := hA2 sb h; omega
  have hS : va_S A s.heap s.heap [] := va_S.rf
  have hP : va_P (dC, dI) vwCl [] s.heap := fun k q h => by cases h
  have hD : va_D A [] := ⟨fun i j p q h => (by cases h), fun k q h => (by cases h)⟩
  have hl := lv_entry ([.ref sb]) (n := 4) (Nat.le_of_ble_eq_true rfl)
  rw [lg_entry_eq]
  generalize (lg_sl ([.ref sb]) ++ List.replicate (4 - (lg_sl ([.ref sb])).length) Slot.unset).toArray = ls at hl ⊢
  have hl : lv_has ls 4 [(0, .ref sb)] := hl
  refine va_new (D := (dC, dI)) (ci := 6) (C := RX6) (T := TX6) (N := 5) (fs := [.null, .int 0, .null, .null, .null]) hx hb hts (fun w h => List.mem_cons_of_mem _ (wlX6 w h)) tyX6 tyX6_ok hown (hts _ (List.mem_cons_of_mem _ nL_X6)) (hts _ (List.mem_cons_of_mem _ sX6)) (hts _ (List.mem_cons_of_mem _ iL_c)) hK.1.1 hP hD hS hA rfl (fun j hj => by rcases (show j = 0 ∨ j = 1 ∨ j = 2 ∨ j = 3 ∨ j = 4 by omega) with rfl | rfl | rfl | rfl | rfl <;> rfl) (Nat.le_of_ble_eq_true rfl) (Nat.le_of_ble_eq_true rfl) dL_law_0 (fun q0 H hP hD hS => ?_)
  have hP : va_P (dC, dI) vwCl [(q0, .inr (6, [.null, .int 0, .null, .null, .null]))] H := hP
  have hD : va_D A [(q0, .inr (6, [.null, .int 0, .null, .null, .null]))] := hD
  refine lv_dup hx hb dL_law_3 rfl ?_
  have hPc := hP
  have hDc := hD
  have hFc := va_freeAll hD hS hA
  refine va_callv (va_runI (As := []) (rest := [.ref q0]) ⟨hx, hb, hml, hown, hts⟩ (pC_X6_init l dC dI k q0 H.size) (cwI 0 hts (gG kX6_init rfl) rfl rfl rfl (hts _ (List.mem_cons_of_mem _ iL_c)) (hts _ (List.mem_cons_of_mem _ gL_c_init)) (hts _ (List.mem_cons_of_mem _ uL_c_init)) rfl hdL_c_init ⟨Nat.le_of_ble_eq_true rfl, Nat.le_of_ble_eq_true rfl⟩) ⟨fun a U g mk q => by obtain ⟨q0, q1, qP, qK, qD⟩ := q; exact ⟨q0, q1, qP, cK2.moved (u := U) (U := U.calling g mk a) (Vm.Alike.refl U.vm) qK, qD⟩, fun U hU hW => ⟨rfl, by rw [hU], by rw [hU]; exact hPc, hK.moved hW.alike, hDc.weaken (fun _ _ _ _ => trivial)⟩⟩ rfl rfl hl.1 rfl (lv_room (Nat.le_of_ble_eq_true rfl)) dL_law_4 ⟨Nat.le_of_ble_eq_true rfl, Nat.le_of_ble_eq_true rfl⟩) hS (fun q _ h => hFc q h) hFc (fun z t H1 locs ht hvm hz hB hz1 hk1 hS => ?_)
  obtain ⟨b, g⟩ := z
  obtain ⟨hb0, hg⟩ := hz
  obtain ⟨hP1, hK1, hD1⟩ := hB
  rw [ht] at hP1
  have hPn : va_P (dC, dI) vwCl (cCells b k (cS0 b k g)) H1 := hP1
  have hDn : va_D A (cCells b k (cS0 b k g)) := hD1.weaken (fun _ q _ hq => hFc q.1 hq)
  have hb0 : b 0 = q0 := hb0
  clear hP hD hPc hDc hFc hP1 hD1 hk1
  subst hb0
  have hP := hPn
  have hD := hDn
  refine lv_astore_n (lv' := [(1, .ref (b 0)), (0, .ref sb)]) hx hb dL_law_7 rfl hl (by decide) rfl (fun ls hl => ?_)
  refine va_new (D := (dC, dI)) (ci := 7) (C := RX7) (T := TX7) (N := 28) (fs := [.null, .int 0, .null, .int 0, .null, .int 0, .null, .null, .null, .null, .null, .null, .null, .null, .null, .null, .null, .null, .int 0, .int 0, .int 0, .int 0, .int 0, .int 0, .int 0, .null, .null, .null]) hx hb hts (fun w h => List.mem_cons_of_mem _ (wlX7 w h)) tyX7 tyX7_ok hown (hts _ (List.mem_cons_of_mem _ nL_X7)) (hts _ (List.mem_cons_of_mem _ sX7)) (hts _ (List.mem_cons_of_mem _ iL_r)) hK.1.1 hP hD hS hA rfl (fun j hj => by rcases (show j = 0 ∨ j = 1 ∨ j = 2 ∨ j = 3 ∨ j = 4 ∨ j = 5 ∨ j = 6 ∨ j = 7 ∨ j = 8 ∨ j = 9 ∨ j = 10 ∨ j = 11 ∨ j = 12 ∨ j = 13 ∨ j = 14 ∨ j = 15 ∨ j = 16 ∨ j = 17 ∨ j = 18 ∨ j = 19 ∨ j = 20 ∨ j = 21 ∨ j = 22 ∨ j = 23 ∨ j = 24 ∨ j = 25 ∨ j = 26 ∨ j = 27 by omega) with rfl | rfl | rfl | rfl | rfl | rfl | rfl | rfl | rfl | rfl | rfl | rfl | rfl | rfl | rfl | rfl | rfl | rfl | rfl | rfl | rfl | rfl | rfl | rfl | rfl | rfl | rfl | rfl <;> rfl) (Nat.le_of_ble_eq_true rfl) (Nat.le_of_ble_eq_true rfl) dL_law_8 (fun q8 H hP hD hS => ?_)
  refine lv_dup hx hb dL_law_11 rfl ?_
  have hsp := va_split hP hD
  have hPc := hsp.2.1.1
  have hDc := hsp.2.1.2
  have hFc := va_freeAll hDc hS hA
  refine va_callv (va_runI (As := []) (rest := [.ref q8]) ⟨hx, hb, hml, hown, hts⟩ (rC_init l dC dI k q8 H.size) (cwI 0 hts (gG kX7_init rfl) rfl rfl rfl (hts _ (List.mem_cons_of_mem _ iL_r)) (hts _ (List.mem_cons_of_mem _ gL_r_init)) (hts _ (List.mem_cons_of_mem _ uL_r_init)) rfl hdL_r_init ⟨Nat.le_of_ble_eq_true rfl, Nat.le_of_ble_eq_true rfl⟩) ⟨fun a U g mk q => by obtain ⟨q0, q1, qP, qK, qD⟩ := q; exact ⟨q0, q1, qP, cK2.moved (u := U) (U := U.calling g mk a) (Vm.Alike.refl U.vm) qK, qD⟩, fun U hU hW => ⟨rfl, by rw [hU], by rw [hU]; exact hPc, hK.moved hW.alike, hDc.weaken (fun _ _ _ _ => trivial)⟩⟩ rfl rfl hl.1 rfl (lv_room (Nat.le_of_ble_eq_true rfl)) dL_law_12 ⟨Nat.le_of_ble_eq_true rfl, Nat.le_of_ble_eq_true rfl⟩) hS (fun q _ h => hFc q h) hFc (fun a t H2 locs ht hvm hz hB hz1 hk1 hS => ?_)
  obtain ⟨hP2, hK2, hD2⟩ := hB
  rw [ht] at hP2
  have hj := va_joinR hP hD hk1 hP2 hD2 hFc
  refine lv_astore_n (lv' := [(2, .ref q8), (1, .ref (b 0)), (0, .ref sb)]) hx hb dL_law_15 rfl hl (by decide) rfl (fun ls hl => ?_)
  refine lv_iconst (v := 0) hx hb dL_law_16 (by decide) ?_
  refine lv_istore_n (lv' := [(3, .int 0), (2, .ref q8), (1, .ref (b 0)), (0, .ref sb)]) hx hb dL_law_17 rfl hl (by decide) rfl (fun ls hl => ?_)
  obtain ⟨n, hw⟩ := hpure b k g L xs hL hg
  refine W.widen (k := 36) (n := 5867) (Nat.le_of_ble_eq_true rfl) (Nat.le_of_ble_eq_true rfl) ?_
  exact lB_law_18 (A := A) ⟨hx, hb, hml, hown, hts⟩ ⟨Nat.le_of_ble_eq_true rfl, Nat.le_of_ble_eq_true rfl⟩ hK.1 hA hsA ⟨rfl, rfl⟩ hX hsb (fun H locs ls nc ns h1 h2 hS => va_forget (fun q hq => hA2 _ (hS.2.2 q hq)) (W.widen (k := 600000) (n := 7302250) h1 h2 (lw_ret hx hb hr hlk dL_law_593))) n 0 36 5867 (cS0 b k g, rS0) H2 locs ls (lv_sub hl [3, 2, 1, 0] rfl) ⟨hj.1, hj.2, hS⟩ ⟨by decide, by decide⟩ hw
