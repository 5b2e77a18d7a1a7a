/-- the class: int fields, arrays, the row of classes, what the reader holds, the pool -/
abbrev cS : Type := (Nat → Int32) × (Nat → Nat → Int32) × (Nat → Option Nat) × (Nat → Option Nat) × va_W
def sI (σ : cS) (n : Nat) (x : Int32) : cS := (va_up σ.1 n x, σ.2)
def sA (σ : cS) (n : Nat) (i x : Int32) : cS := (σ.1, va_up σ.2.1 n (upd (σ.2.1 n) i.toNatClampNeg x), σ.2.2)
def sFl (σ : cS) (i : Int32) (o : Option Nat) : cS := (σ.1, σ.2.1, va_up σ.2.2.1 i.toNatClampNeg o, σ.2.2.2)
def sR (σ : cS) (n a : Nat) : cS := (σ.1, σ.2.1, σ.2.2.1, va_up σ.2.2.2.1 n (some a), σ.2.2.2.2)
def sP (σ : cS) (j : Nat) (q : Nat × va_E) : cS := (σ.1, σ.2.1, σ.2.2.1, σ.2.2.2.1, σ.2.2.2.2.set j q)
def sN (σ : cS) (q : Nat × va_E) : cS := (σ.1, σ.2.1, σ.2.2.1, σ.2.2.2.1, σ.2.2.2.2 ++ [q])
/-- the object o of kind ci in the pool holds the int v, the reference r, in a slot; it is there; the array o -/
def pI (L : va_W) (o : Option Nat) (ci sl : Nat) (v : Int32) : Prop := ∃ (x j : Nat) (fs : List Value), o = some x ∧ L[j]? = some (x, .inr (ci, fs)) ∧ fs[sl]? = some (.int v)
def pR (L : va_W) (o : Option Nat) (ci sl : Nat) (v : Option Nat) : Prop := ∃ (x j : Nat) (fs : List Value), o = some x ∧ L[j]? = some (x, .inr (ci, fs)) ∧ fs[sl]? = some (va_rf v)
def pX (L : va_W) (o : Option Nat) (ci x : Nat) : Prop := o = some x ∧ ∃ (j : Nat) (fs : List Value), L[j]? = some (x, .inr (ci, fs))
def pO (L : va_W) (o : Option Nat) (ci : Nat) : Prop := ∃ x : Nat, pX L o ci x
def pA (L : va_W) (o : Option Nat) (cA : ClassId) (n : Nat) (f : Nat → Int32) : Prop := ∃ (x j : Nat), o = some x ∧ L[j]? = some (x, .inl (cA, n, .inl f))
def pQ (L : va_W) (o : Option Nat) (cA : ClassId) (n : Nat) (f : Nat → Option Nat) : Prop := ∃ (x j : Nat), o = some x ∧ L[j]? = some (x, .inl (cA, n, .inr (.inr (.inr (.inr f)))))
def cFix (b : Nat → Nat) (k : Nat → ClassId) (σ : cS) : va_W := [(b 0, .inr (6, [.ref (b 1), .int (σ.1 0), .ref (b 2), .ref (b 5), .ref (b 10)])), (b 1, .inl (k 0, 120, .inl (σ.2.1 0))), (b 2, .inr (4, [.ref (b 3), .ref (b 4), .int (σ.1 1)])), (b 3, .inl (k 2, 1920, .inl (σ.2.1 1))), (b 4, .inl (k 0, 192, .inl (σ.2.1 2))), (b 5, .inr (1, [.ref (b 6), .int (σ.1 2), .ref (b 7), .ref (b 8), .ref (b 9)])), (b 6, .inl (k 4, 16, .inr (.inr (.inr (.inr σ.2.2.1))))), (b 7, .inl (k 0, 192, .inl (σ.2.1 3))), (b 8, .inl (k 0, 16, .inl (σ.2.1 4))), (b 9, .inl (k 1, 16, .inl (σ.2.1 5))), (b 10, .inr (3, [.int (σ.1 3), va_rf (σ.2.2.2.1 0), .int (σ.1 4), .int (σ.1 5), va_rf (σ.2.2.2.1 1), va_rf (σ.2.2.2.1 2), .int (σ.1 6), .ref (b 11), .ref (b 12), .ref (b 13), .ref (b 14)])), (b 11, .inl (k 0, 13, .inl (σ.2.1 6))), (b 12, .inl (k 0, 13, .inl (σ.2.1 7))), (b 13, .inl (k 0, 13, .inl (σ.2.1 8)))]
def cCells (b : Nat → Nat) (k : Nat → ClassId) (σ : cS) : va_W := cFix b k σ ++ σ.2.2.2.2
def cTys (k : Nat → ClassId) : List (ClassId × FieldType) := [(k 0, .int), (k 1, .boolean), (k 2, .byte), (k 3, .object "ClassFileIndex$Value"), (k 4, .object "ClassFileIndex$ClassFile")]
def cK (dC : Nat → ClassId) (dI : Nat → Nat → Nat) (k : Nat → ClassId) (s : State) : Prop := va_K (dC, dI) vwCl (cTys k) s ∧ va_AO "ClassFileIndex$Value" s
theorem cK.moved {dC : Nat → ClassId} {dI : Nat → Nat → Nat} {k : Nat → ClassId} {u U : State} (hvm : u.vm.Alike U.vm) (h : cK dC dI k u) : cK dC dI k U := ⟨va_K.moved hvm h.1, va_AO.moved hvm h.2⟩
def cO (dC : Nat → ClassId) (dI : Nat → Nat → Nat) (b : Nat → Nat) (k : Nat → ClassId) (A : Nat → Prop) (H0 : Heap) (σ : cS) (H : Heap) (locs : List Loc) : Prop := va_P (dC, dI) vwCl (cCells b k σ) H ∧ va_D A (cCells b k σ) ∧ va_S A H0 H locs
def cAt (dC : Nat → ClassId) (dI : Nat → Nat → Nat) (A : Nat → Prop) (b : Nat → Nat) (k : Nat → ClassId) (σ : cS) (t : State) : Prop := va_P (dC, dI) vwCl (cCells b k σ) t.heap ∧ cK dC dI k t ∧ va_D A (cCells b k σ)
def cPc (dC : Nat → ClassId) (dI : Nat → Nat → Nat) (b : Nat → Nat) (k : Nat → ClassId) (sz : Nat) (σ : cS) (av : List Value) : Array Value → State → Prop := va_Pc av (fun U => U.heap.size = sz ∧ va_P (dC, dI) vwCl (cCells b k σ) U.heap ∧ cK dC dI k U ∧ va_D (fun _ => True) (cCells b k σ))
theorem cpl {b : Nat → Nat} {k : Nat → ClassId} {σ : cS} {j : Nat} {q : Nat × va_E} (h : σ.2.2.2.2[j]? = some q) : (cCells b k σ)[14 + j]? = some q := by
  unfold cCells
  rw [List.getElem?_append_right (show (cFix b k σ).length ≤ 14 + j from Nat.le_add_right _ _)]
  rw [show 14 + j - (cFix b k σ).length = j from Nat.add_sub_cancel_left _ _]
  exact h
theorem cps {b : Nat → Nat} {k : Nat → ClassId} {σ : cS} {j : Nat} {q : Nat × va_E} : (cCells b k σ).set (14 + j) q = cCells b k (sP σ j q) := by
  unfold cCells
  rw [List.set_append_right _ _ (show (cFix b k σ).length ≤ 14 + j from Nat.le_add_right _ _)]
  rw [show 14 + j - (cFix b k σ).length = j from Nat.add_sub_cancel_left _ _]
  rfl
theorem cpn {b : Nat → Nat} {k : Nat → ClassId} {σ : cS} {q : Nat × va_E} : cCells b k σ ++ [q] = cCells b k (sN σ q) := List.append_assoc _ _ _
theorem ra_i {s : State} {c1 c2 : ClassId} (h1 : va_RA s c1 .int) (h2 : va_RA s c2 .int) : c1 = c2 := Option.some.inj (Eq.trans (Eq.symm h1) h2)
theorem ra_o {s : State} {C : String} {c1 c2 : ClassId} (h1 : va_RA s c1 (.object C)) (h2 : va_RA s c2 (.object C)) : c1 = c2 := by
  obtain ⟨_, _, -, -, -, e1⟩ := h1
  obtain ⟨_, _, -, -, -, e2⟩ := h2
  exact Option.some.inj (e1.symm.trans e2)
section
variable {p : Program} {l : Launch} {e : Env} {R : Room} {s : State} {m : MethodId} {args : Array Value} {below : List Frame} {meth : Method} {c : Code}
variable {dC : Nat → ClassId} {dI : Nat → Nat → Nat} {b : Nat → Nat} {k : Nat → ClassId} {A : Nat → Prop}
variable {H : Heap} {locs : List Loc} {cells slots : Nat} {QF : State → Prop} {cc : ByteArray} {nL pc : Nat} {ls : Array Slot} {rest : List Value} {Ts : List Cond} {cw : Cond} {H0 : Heap} {σ : cS} {own : String} {idx : Nat} {o : Option Nat}
theorem cO_end {t : State} (hO : cO dC dI b k A H0 σ H locs) (hK : cK dC dI k s) (ht : t.heap = H) (hW : s.WarmedH t.vm) : cAt dC dI A b k σ t := ⟨by rw [ht]; exact hO.1, hK.moved hW.alike, hO.2.1⟩
theorem cPc_blind {sz : Nat} {av : List Value} : FrameBlind (cPc dC dI b k sz σ av) := fun v U g mk q => by
  obtain ⟨q0, q1, qP, qK, qD⟩ := q
  exact ⟨q0, q1, qP, cK.moved (u := U) (U := U.calling g mk v) (Vm.Alike.refl U.vm) qK, qD⟩
theorem cPc_pre {av : List Value} (hK : cK dC dI k s) (hO : cO dC dI b k A H0 σ H locs) : ∀ U : State, U.heap = H → s.WarmedH U.vm → cPc dC dI b k H.size σ av av.toArray U := fun U hU hW => ⟨rfl, by rw [hU], by rw [hU]; exact hO.1, hK.moved hW.alike, hO.2.1.weaken (fun _ _ _ _ => trivial)⟩
/-- references that may be null -/
theorem lv_topo {x : Option Nat} (kk : ∀ y : Option Nat, y = x → W p l e R s m args below meth c H locs cells slots QF (F0 m pc ls (va_rf y :: rest))) : W p l e R s m args below meth c H locs cells slots QF (F0 m pc ls (va_rf x :: rest)) := kk x rfl
theorem lv_aload_nO (hx : p.tables.exec = Jvm.exec) (hb : c.code = cc) {n : Fin 4} {i : Nat} (hdg : decode cc pc = .ok (.aload_n n, 1)) (hi : (n : Nat) = i) (hl : ls[i]? = some (.val (va_rf o))) (kk : W p l e R s m args below meth c H locs cells slots QF (F0 m (pc + 1) ls (va_rf o :: rest))) : W p l e R s m args below meth c H locs cells slots QF (F0 m pc ls rest) := by
  cases o with
  | none => exact lv_aload_nN hx hb hdg hi hl kk
  | some x => exact lv_aload_n hx hb hdg hi hl kk
theorem lv_aloadO (hx : p.tables.exec = Jvm.exec) (hb : c.code = cc) {i : Nat} (hdg : decode cc pc = .ok (.aload i, 2)) (hl : ls[i]? = some (.val (va_rf o))) (kk : W p l e R s m args below meth c H locs cells slots QF (F0 m (pc + 2) ls (va_rf o :: rest))) : W p l e R s m args below meth c H locs cells slots QF (F0 m pc ls rest) := by
  cases o with
  | none => exact lv_aloadN hx hb hdg hl kk
  | some x => exact lv_aload hx hb hdg hl kk
theorem lv_astore_nO (hx : p.tables.exec = Jvm.exec) (hb : c.code = cc) {n : Fin 4} {i : Nat} {lv lv' : List (Nat × Value)} (hdg : decode cc pc = .ok (.astore_n n, 1)) (hi : (n : Nat) = i) (h : lv_has ls nL lv) (hn : i < nL) (hl : (i, va_rf o) :: lv.filter (fun q => !(q.1 == i) && !(q.1 + 1 == i && q.2.category == 2)) = lv') (kk : ∀ ls' : Array Slot, lv_has ls' nL lv' → W p l e R s m args below meth c H locs cells slots QF (F0 m (pc + 1) ls' rest)) : W p l e R s m args below meth c H locs cells slots QF (F0 m pc ls (va_rf o :: rest)) := by
  cases o with
  | none => exact lv_astore_nN hx hb hdg hi h hn hl kk
  | some x => exact lv_astore_n hx hb hdg hi h hn hl kk
theorem lv_astoreO (hx : p.tables.exec = Jvm.exec) (hb : c.code = cc) {i : Nat} {lv lv' : List (Nat × Value)} (hdg : decode cc pc = .ok (.astore i, 2)) (h : lv_has ls nL lv) (hn : i < nL) (hl : (i, va_rf o) :: lv.filter (fun q => !(q.1 == i) && !(q.1 + 1 == i && q.2.category == 2)) = lv') (kk : ∀ ls' : Array Slot, lv_has ls' nL lv' → W p l e R s m args below meth c H locs cells slots QF (F0 m (pc + 2) ls' rest)) : W p l e R s m args below meth c H locs cells slots QF (F0 m pc ls (va_rf o :: rest)) := by
  cases o with
  | none => exact lv_astoreN hx hb hdg h hn hl kk
  | some x => exact lv_astore hx hb hdg h hn hl kk
theorem lv_ifnullO (hx : p.tables.exec = Jvm.exec) (hb : c.code = cc) {off : Int} {tgt : Nat} (hdg : decode cc pc = .ok (.ifnull off, 3)) (ht : (pc : Int) + off = (tgt : Int)) (kt : o = none → W p l e R s m args below meth c H locs cells slots QF (F0 m tgt ls rest)) (kf : ¬ o = none → W p l e R s m args below meth c H locs cells slots QF (F0 m (pc + 3) ls rest)) : W p l e R s m args below meth c H locs cells slots QF (F0 m pc ls (va_rf o :: rest)) := by
  cases o with
  | none => exact lv_ifnullN hx hb hdg ht (kt rfl)
  | some x => exact lv_ifnull hx hb hdg (kf (fun h => by cases h))
theorem lv_ifnonnullO (hx : p.tables.exec = Jvm.exec) (hb : c.code = cc) {off : Int} {tgt : Nat} (hdg : decode cc pc = .ok (.ifnonnull off, 3)) (ht : (pc : Int) + off = (tgt : Int)) (kt : ¬ o = none → W p l e R s m args below meth c H locs cells slots QF (F0 m tgt ls rest)) (kf : o = none → W p l e R s m args below meth c H locs cells slots QF (F0 m (pc + 3) ls rest)) : W p l e R s m args below meth c H locs cells slots QF (F0 m pc ls (va_rf o :: rest)) := by
  cases o with
  | none => exact lv_ifnonnullN hx hb hdg (kf rfl)
  | some x => exact lv_ifnonnull hx hb hdg ht (kt (fun h => by cases h))
theorem va_rf_cat (o : Option Nat) : (va_rf o).category = 1 := by cases o <;> rfl
theorem cRecvP {ci x : Nat} {q : vw_C} (hK : cK dC dI k s) (hO : cO dC dI b k A H0 σ H locs) (h : pX σ.2.2.2.2 o ci x) (hc : vwCl[ci]? = some q) : ∃ cell : Cell, H[x]? = some cell ∧ cell.vm.isStatics = false ∧ s.vm.findClass q.1 = some cell.cls := by
  obtain ⟨-, j, fs, hj⟩ := h
  exact va_recv hK.1 hO.1 hc (cpl hj)
set_option maxRecDepth 100000 in
theorem cRecv_X6 (hK : cK dC dI k s) (hO : cO dC dI b k A H0 σ H locs) : ∃ cell : Cell, H[b 0]? = some cell ∧ cell.vm.isStatics = false ∧ s.vm.findClass RX6 = some cell.cls := va_recv hK.1 hO.1 (ci := 6) (q0 := 0) rfl rfl
set_option maxRecDepth 100000 in
theorem cf_X6_buffer (X : CallFix p m c cc nL s args (cw :: wG) own) (hm : Cond.fieldLink own idx "ClassFileIndex" "buffer" "[I" ∈ wG) (hK : cK dC dI k s) (hO : cO dC dI b k A H0 σ H locs) (hdg : decode cc pc = .ok (.getfield idx, 3)) (kk : W p l e R s m args below meth c H locs cells slots QF (F0 m (pc + 3) ls (.ref (b 1) :: rest))) : W p l e R s m args below meth c H locs cells slots QF (F0 m pc ls (.ref (b 0) :: rest)) :=
  va_get (D := (dC, dI)) (ci := 6) (C := RX6) (T := TX6) (N := 5) (v := .ref (b 1)) X.1 X.2.1 X.2.2.2.2 (fun w h => List.mem_cons_of_mem _ (wlX6 w h)) X.2.2.2.1 hK.1 hO.1 0 rfl rfl 0 (by decide) (X.2.2.2.2 _ (List.mem_cons_of_mem _ hm)) (fun _ h9 => h9) rfl hdg kk
set_option maxRecDepth 100000 in
theorem cf_X6_held (X : CallFix p m c cc nL s args (cw :: wG) own) (hm : Cond.fieldLink own idx "ClassFileIndex" "held" "I" ∈ wG) (hK : cK dC dI k s) (hO : cO dC dI b k A H0 σ H locs) (hdg : decode cc pc = .ok (.getfield idx, 3)) (kk : W p l e R s m args below meth c H locs cells slots QF (F0 m (pc + 3) ls (.int (σ.1 0) :: rest))) : W p l e R s m args below meth c H locs cells slots QF (F0 m pc ls (.ref (b 0) :: rest)) :=
  va_get (D := (dC, dI)) (ci := 6) (C := RX6) (T := TX6) (N := 5) (v := .int (σ.1 0)) X.1 X.2.1 X.2.2.2.2 (fun w h => List.mem_cons_of_mem _ (wlX6 w h)) X.2.2.2.1 hK.1 hO.1 0 rfl rfl 1 (by decide) (X.2.2.2.2 _ (List.mem_cons_of_mem _ hm)) (fun _ h9 => h9) rfl hdg kk
set_option maxRecDepth 100000 in
theorem cp_X6_held (X : CallFix p m c cc nL s args (cw :: wG) own) (hm : Cond.fieldLink own idx "ClassFileIndex" "held" "I" ∈ wG) (hK : cK dC dI k s) (hO : cO dC dI b k A H0 σ H locs) {x : Int32} (hdg : decode cc pc = .ok (.putfield idx, 3)) (kk : ∀ (H1 : Heap) (locs1 : List Loc), cO dC dI b k A H0 (sI σ 0 x) H1 locs1 → W p l e R s m args below meth c H1 locs1 cells slots QF (F0 m (pc + 3) ls rest)) : W p l e R s m args below meth c H locs cells slots QF (F0 m pc ls (.int x :: .ref (b 0) :: rest)) :=
  va_put (D := (dC, dI)) (ci := 6) (C := RX6) (T := TX6) (N := 5) (v := .int x) X.1 X.2.1 X.2.2.2.2 (fun w h => List.mem_cons_of_mem _ (wlX6 w h)) tyX6 tyX6_ok nmX6 X.2.2.2.1 hK.1 hO.1 hO.2.1 hO.2.2 0 rfl rfl 1 (by decide) (X.2.2.2.2 _ (List.mem_cons_of_mem _ hm)) (fun _ h9 => h9) rfl (tyX6_ok 1 (by decide)) rfl rfl (Nat.le_of_ble_eq_true rfl) hdg (fun H1 locs1 hP hD hS => kk H1 locs1 ⟨hP, hD, hS⟩)
set_option maxRecDepth 100000 in
theorem cf_X6_knownTexts (X : CallFix p m c cc nL s args (cw :: wG) own) (hm : Cond.fieldLink own idx "ClassFileIndex" "knownTexts" "LClassFileIndex$Texts;" ∈ wG) (hK : cK dC dI k s) (hO : cO dC dI b k A H0 σ H locs) (hdg : decode cc pc = .ok (.getfield idx, 3)) (kk : W p l e R s m args below meth c H locs cells slots QF (F0 m (pc + 3) ls (.ref (b 2) :: rest))) : W p l e R s m args below meth c H locs cells slots QF (F0 m pc ls (.ref (b 0) :: rest)) :=
  va_get (D := (dC, dI)) (ci := 6) (C := RX6) (T := TX6) (N := 5) (v := .ref (b 2)) X.1 X.2.1 X.2.2.2.2 (fun w h => List.mem_cons_of_mem _ (wlX6 w h)) X.2.2.2.1 hK.1 hO.1 0 rfl rfl 2 (by decide) (X.2.2.2.2 _ (List.mem_cons_of_mem _ hm)) (fun _ h9 => h9) rfl hdg kk
set_option maxRecDepth 100000 in
theorem cf_X6_knownClasses (X : CallFix p m c cc nL s args (cw :: wG) own) (hm : Cond.fieldLink own idx "ClassFileIndex" "knownClasses" "LClassFileIndex$Classes;" ∈ wG) (hK : cK dC dI k s) (hO : cO dC dI b k A H0 σ H locs) (hdg : decode cc pc = .ok (.getfield idx, 3)) (kk : W p l e R s m args below meth c H locs cells slots QF (F0 m (pc + 3) ls (.ref (b 5) :: rest))) : W p l e R s m args below meth c H locs cells slots QF (F0 m pc ls (.ref (b 0) :: rest)) :=
  va_get (D := (dC, dI)) (ci := 6) (C := RX6) (T := TX6) (N := 5) (v := .ref (b 5)) X.1 X.2.1 X.2.2.2.2 (fun w h => List.mem_cons_of_mem _ (wlX6 w h)) X.2.2.2.1 hK.1 hO.1 0 rfl rfl 3 (by decide) (X.2.2.2.2 _ (List.mem_cons_of_mem _ hm)) (fun _ h9 => h9) rfl hdg kk
set_option maxRecDepth 100000 in
theorem cf_X6_reader (X : CallFix p m c cc nL s args (cw :: wG) own) (hm : Cond.fieldLink own idx "ClassFileIndex" "reader" "LClassFileIndex$Reader;" ∈ wG) (hK : cK dC dI k s) (hO : cO dC dI b k A H0 σ H locs) (hdg : decode cc pc = .ok (.getfield idx, 3)) (kk : W p l e R s m args below meth c H locs cells slots QF (F0 m (pc + 3) ls (.ref (b 10) :: rest))) : W p l e R s m args below meth c H locs cells slots QF (F0 m pc ls (.ref (b 0) :: rest)) :=
  va_get (D := (dC, dI)) (ci := 6) (C := RX6) (T := TX6) (N := 5) (v := .ref (b 10)) X.1 X.2.1 X.2.2.2.2 (fun w h => List.mem_cons_of_mem _ (wlX6 w h)) X.2.2.2.1 hK.1 hO.1 0 rfl rfl 4 (by decide) (X.2.2.2.2 _ (List.mem_cons_of_mem _ hm)) (fun _ h9 => h9) rfl hdg kk
set_option maxRecDepth 100000 in
theorem cRecv_X4 (hK : cK dC dI k s) (hO : cO dC dI b k A H0 σ H locs) : ∃ cell : Cell, H[b 2]? = some cell ∧ cell.vm.isStatics = false ∧ s.vm.findClass RX4 = some cell.cls := va_recv hK.1 hO.1 (ci := 4) (q0 := 2) rfl rfl
set_option maxRecDepth 100000 in
theorem cf_X4_letters (X : CallFix p m c cc nL s args (cw :: wG) own) (hm : Cond.fieldLink own idx "ClassFileIndex$Texts" "letters" "[B" ∈ wG) (hK : cK dC dI k s) (hO : cO dC dI b k A H0 σ H locs) (hdg : decode cc pc = .ok (.getfield idx, 3)) (kk : W p l e R s m args below meth c H locs cells slots QF (F0 m (pc + 3) ls (.ref (b 3) :: rest))) : W p l e R s m args below meth c H locs cells slots QF (F0 m pc ls (.ref (b 2) :: rest)) :=
  va_get (D := (dC, dI)) (ci := 4) (C := RX4) (T := TX4) (N := 3) (v := .ref (b 3)) X.1 X.2.1 X.2.2.2.2 (fun w h => List.mem_cons_of_mem _ (wlX4 w h)) X.2.2.2.1 hK.1 hO.1 2 rfl rfl 0 (by decide) (X.2.2.2.2 _ (List.mem_cons_of_mem _ hm)) (fun _ h9 => h9) rfl hdg kk
set_option maxRecDepth 100000 in
theorem cf_X4_lengths (X : CallFix p m c cc nL s args (cw :: wG) own) (hm : Cond.fieldLink own idx "ClassFileIndex$Texts" "lengths" "[I" ∈ wG) (hK : cK dC dI k s) (hO : cO dC dI b k A H0 σ H locs) (hdg : decode cc pc = .ok (.getfield idx, 3)) (kk : W p l e R s m args below meth c H locs cells slots QF (F0 m (pc + 3) ls (.ref (b 4) :: rest))) : W p l e R s m args below meth c H locs cells slots QF (F0 m pc ls (.ref (b 2) :: rest)) :=
  va_get (D := (dC, dI)) (ci := 4) (C := RX4) (T := TX4) (N := 3) (v := .ref (b 4)) X.1 X.2.1 X.2.2.2.2 (fun w h => List.mem_cons_of_mem _ (wlX4 w h)) X.2.2.2.1 hK.1 hO.1 2 rfl rfl 1 (by decide) (X.2.2.2.2 _ (List.mem_cons_of_mem _ hm)) (fun _ h9 => h9) rfl hdg kk
set_option maxRecDepth 100000 in
theorem cf_X4_size (X : CallFix p m c cc nL s args (cw :: wG) own) (hm : Cond.fieldLink own idx "ClassFileIndex$Texts" "size" "I" ∈ wG) (hK : cK dC dI k s) (hO : cO dC dI b k A H0 σ H locs) (hdg : decode cc pc = .ok (.getfield idx, 3)) (kk : W p l e R s m args below meth c H locs cells slots QF (F0 m (pc + 3) ls (.int (σ.1 1) :: rest))) : W p l e R s m args below meth c H locs cells slots QF (F0 m pc ls (.ref (b 2) :: rest)) :=
  va_get (D := (dC, dI)) (ci := 4) (C := RX4) (T := TX4) (N := 3) (v := .int (σ.1 1)) X.1 X.2.1 X.2.2.2.2 (fun w h => List.mem_cons_of_mem _ (wlX4 w h)) X.2.2.2.1 hK.1 hO.1 2 rfl rfl 2 (by decide) (X.2.2.2.2 _ (List.mem_cons_of_mem _ hm)) (fun _ h9 => h9) rfl hdg kk
set_option maxRecDepth 100000 in
theorem cp_X4_size (X : CallFix p m c cc nL s args (cw :: wG) own) (hm : Cond.fieldLink own idx "ClassFileIndex$Texts" "size" "I" ∈ wG) (hK : cK dC dI k s) (hO : cO dC dI b k A H0 σ H locs) {x : Int32} (hdg : decode cc pc = .ok (.putfield idx, 3)) (kk : ∀ (H1 : Heap) (locs1 : List Loc), cO dC dI b k A H0 (sI σ 1 x) H1 locs1 → W p l e R s m args below meth c H1 locs1 cells slots QF (F0 m (pc + 3) ls rest)) : W p l e R s m args below meth c H locs cells slots QF (F0 m pc ls (.int x :: .ref (b 2) :: rest)) :=
  va_put (D := (dC, dI)) (ci := 4) (C := RX4) (T := TX4) (N := 3) (v := .int x) X.1 X.2.1 X.2.2.2.2 (fun w h => List.mem_cons_of_mem _ (wlX4 w h)) tyX4 tyX4_ok nmX4 X.2.2.2.1 hK.1 hO.1 hO.2.1 hO.2.2 2 rfl rfl 2 (by decide) (X.2.2.2.2 _ (List.mem_cons_of_mem _ hm)) (fun _ h9 => h9) rfl (tyX4_ok 2 (by decide)) rfl rfl (Nat.le_of_ble_eq_true rfl) hdg (fun H1 locs1 hP hD hS => kk H1 locs1 ⟨hP, hD, hS⟩)
set_option maxRecDepth 100000 in
theorem cRecv_X1 (hK : cK dC dI k s) (hO : cO dC dI b k A H0 σ H locs) : ∃ cell : Cell, H[b 5]? = some cell ∧ cell.vm.isStatics = false ∧ s.vm.findClass RX1 = some cell.cls := va_recv hK.1 hO.1 (ci := 1) (q0 := 5) rfl rfl
set_option maxRecDepth 100000 in
theorem cf_X1_files (X : CallFix p m c cc nL s args (cw :: wG) own) (hm : Cond.fieldLink own idx "ClassFileIndex$Classes" "files" "[LClassFileIndex$ClassFile;" ∈ wG) (hK : cK dC dI k s) (hO : cO dC dI b k A H0 σ H locs) (hdg : decode cc pc = .ok (.getfield idx, 3)) (kk : W p l e R s m args below meth c H locs cells slots QF (F0 m (pc + 3) ls (.ref (b 6) :: rest))) : W p l e R s m args below meth c H locs cells slots QF (F0 m pc ls (.ref (b 5) :: rest)) :=
  va_get (D := (dC, dI)) (ci := 1) (C := RX1) (T := TX1) (N := 5) (v := .ref (b 6)) X.1 X.2.1 X.2.2.2.2 (fun w h => List.mem_cons_of_mem _ (wlX1 w h)) X.2.2.2.1 hK.1 hO.1 5 rfl rfl 0 (by decide) (X.2.2.2.2 _ (List.mem_cons_of_mem _ hm)) (fun _ h9 => h9) rfl hdg kk
set_option maxRecDepth 100000 in
theorem cf_X1_size (X : CallFix p m c cc nL s args (cw :: wG) own) (hm : Cond.fieldLink own idx "ClassFileIndex$Classes" "size" "I" ∈ wG) (hK : cK dC dI k s) (hO : cO dC dI b k A H0 σ H locs) (hdg : decode cc pc = .ok (.getfield idx, 3)) (kk : W p l e R s m args below meth c H locs cells slots QF (F0 m (pc + 3) ls (.int (σ.1 2) :: rest))) : W p l e R s m args below meth c H locs cells slots QF (F0 m pc ls (.ref (b 5) :: rest)) :=
  va_get (D := (dC, dI)) (ci := 1) (C := RX1) (T := TX1) (N := 5) (v := .int (σ.1 2)) X.1 X.2.1 X.2.2.2.2 (fun w h => List.mem_cons_of_mem _ (wlX1 w h)) X.2.2.2.1 hK.1 hO.1 5 rfl rfl 1 (by decide) (X.2.2.2.2 _ (List.mem_cons_of_mem _ hm)) (fun _ h9 => h9) rfl hdg kk
set_option maxRecDepth 100000 in
theorem cp_X1_size (X : CallFix p m c cc nL s args (cw :: wG) own) (hm : Cond.fieldLink own idx "ClassFileIndex$Classes" "size" "I" ∈ wG) (hK : cK dC dI k s) (hO : cO dC dI b k A H0 σ H locs) {x : Int32} (hdg : decode cc pc = .ok (.putfield idx, 3)) (kk : ∀ (H1 : Heap) (locs1 : List Loc), cO dC dI b k A H0 (sI σ 2 x) H1 locs1 → W p l e R s m args below meth c H1 locs1 cells slots QF (F0 m (pc + 3) ls rest)) : W p l e R s m args below meth c H locs cells slots QF (F0 m pc ls (.int x :: .ref (b 5) :: rest)) :=
  va_put (D := (dC, dI)) (ci := 1) (C := RX1) (T := TX1) (N := 5) (v := .int x) X.1 X.2.1 X.2.2.2.2 (fun w h => List.mem_cons_of_mem _ (wlX1 w h)) tyX1 tyX1_ok nmX1 X.2.2.2.1 hK.1 hO.1 hO.2.1 hO.2.2 5 rfl rfl 1 (by decide) (X.2.2.2.2 _ (List.mem_cons_of_mem _ hm)) (fun _ h9 => h9) rfl (tyX1_ok 1 (by decide)) rfl rfl (Nat.le_of_ble_eq_true rfl) hdg (fun H1 locs1 hP hD hS => kk H1 locs1 ⟨hP, hD, hS⟩)
set_option maxRecDepth 100000 in
theorem cf_X1_classOfText (X : CallFix p m c cc nL s args (cw :: wG) own) (hm : Cond.fieldLink own idx "ClassFileIndex$Classes" "classOfText" "[I" ∈ wG) (hK : cK dC dI k s) (hO : cO dC dI b k A H0 σ H locs) (hdg : decode cc pc = .ok (.getfield idx, 3)) (kk : W p l e R s m args below meth c H locs cells slots QF (F0 m (pc + 3) ls (.ref (b 7) :: rest))) : W p l e R s m args below meth c H locs cells slots QF (F0 m pc ls (.ref (b 5) :: rest)) :=
  va_get (D := (dC, dI)) (ci := 1) (C := RX1) (T := TX1) (N := 5) (v := .ref (b 7)) X.1 X.2.1 X.2.2.2.2 (fun w h => List.mem_cons_of_mem _ (wlX1 w h)) X.2.2.2.1 hK.1 hO.1 5 rfl rfl 2 (by decide) (X.2.2.2.2 _ (List.mem_cons_of_mem _ hm)) (fun _ h9 => h9) rfl hdg kk
set_option maxRecDepth 100000 in
theorem cf_X1_queue (X : CallFix p m c cc nL s args (cw :: wG) own) (hm : Cond.fieldLink own idx "ClassFileIndex$Classes" "queue" "[I" ∈ wG) (hK : cK dC dI k s) (hO : cO dC dI b k A H0 σ H locs) (hdg : decode cc pc = .ok (.getfield idx, 3)) (kk : W p l e R s m args below meth c H locs cells slots QF (F0 m (pc + 3) ls (.ref (b 8) :: rest))) : W p l e R s m args below meth c H locs cells slots QF (F0 m pc ls (.ref (b 5) :: rest)) :=
  va_get (D := (dC, dI)) (ci := 1) (C := RX1) (T := TX1) (N := 5) (v := .ref (b 8)) X.1 X.2.1 X.2.2.2.2 (fun w h => List.mem_cons_of_mem _ (wlX1 w h)) X.2.2.2.1 hK.1 hO.1 5 rfl rfl 3 (by decide) (X.2.2.2.2 _ (List.mem_cons_of_mem _ hm)) (fun _ h9 => h9) rfl hdg kk
set_option maxRecDepth 100000 in
theorem cf_X1_queued (X : CallFix p m c cc nL s args (cw :: wG) own) (hm : Cond.fieldLink own idx "ClassFileIndex$Classes" "queued" "[Z" ∈ wG) (hK : cK dC dI k s) (hO : cO dC dI b k A H0 σ H locs) (hdg : decode cc pc = .ok (.getfield idx, 3)) (kk : W p l e R s m args below meth c H locs cells slots QF (F0 m (pc + 3) ls (.ref (b 9) :: rest))) : W p l e R s m args below meth c H locs cells slots QF (F0 m pc ls (.ref (b 5) :: rest)) :=
  va_get (D := (dC, dI)) (ci := 1) (C := RX1) (T := TX1) (N := 5) (v := .ref (b 9)) X.1 X.2.1 X.2.2.2.2 (fun w h => List.mem_cons_of_mem _ (wlX1 w h)) X.2.2.2.1 hK.1 hO.1 5 rfl rfl 4 (by decide) (X.2.2.2.2 _ (List.mem_cons_of_mem _ hm)) (fun _ h9 => h9) rfl hdg kk
set_option maxRecDepth 100000 in
theorem cRecv_X3 (hK : cK dC dI k s) (hO : cO dC dI b k A H0 σ H locs) : ∃ cell : Cell, H[b 10]? = some cell ∧ cell.vm.isStatics = false ∧ s.vm.findClass RX3 = some cell.cls := va_recv hK.1 hO.1 (ci := 3) (q0 := 10) rfl rfl
set_option maxRecDepth 100000 in
theorem cf_X3_fault (X : CallFix p m c cc nL s args (cw :: wG) own) (hm : Cond.fieldLink own idx "ClassFileIndex$Reader" "fault" "I" ∈ wG) (hK : cK dC dI k s) (hO : cO dC dI b k A H0 σ H locs) (hdg : decode cc pc = .ok (.getfield idx, 3)) (kk : W p l e R s m args below meth c H locs cells slots QF (F0 m (pc + 3) ls (.int (σ.1 3) :: rest))) : W p l e R s m args below meth c H locs cells slots QF (F0 m pc ls (.ref (b 10) :: rest)) :=
  va_get (D := (dC, dI)) (ci := 3) (C := RX3) (T := TX3) (N := 11) (v := .int (σ.1 3)) X.1 X.2.1 X.2.2.2.2 (fun w h => List.mem_cons_of_mem _ (wlX3 w h)) X.2.2.2.1 hK.1 hO.1 10 rfl rfl 0 (by decide) (X.2.2.2.2 _ (List.mem_cons_of_mem _ hm)) (fun _ h9 => h9) rfl hdg kk
set_option maxRecDepth 100000 in
theorem cp_X3_fault (X : CallFix p m c cc nL s args (cw :: wG) own) (hm : Cond.fieldLink own idx "ClassFileIndex$Reader" "fault" "I" ∈ wG) (hK : cK dC dI k s) (hO : cO dC dI b k A H0 σ H locs) {x : Int32} (hdg : decode cc pc = .ok (.putfield idx, 3)) (kk : ∀ (H1 : Heap) (locs1 : List Loc), cO dC dI b k A H0 (sI σ 3 x) H1 locs1 → W p l e R s m args below meth c H1 locs1 cells slots QF (F0 m (pc + 3) ls rest)) : W p l e R s m args below meth c H locs cells slots QF (F0 m pc ls (.int x :: .ref (b 10) :: rest)) :=
  va_put (D := (dC, dI)) (ci := 3) (C := RX3) (T := TX3) (N := 11) (v := .int x) X.1 X.2.1 X.2.2.2.2 (fun w h => List.mem_cons_of_mem _ (wlX3 w h)) tyX3 tyX3_ok nmX3 X.2.2.2.1 hK.1 hO.1 hO.2.1 hO.2.2 10 rfl rfl 0 (by decide) (X.2.2.2.2 _ (List.mem_cons_of_mem _ hm)) (fun _ h9 => h9) rfl (tyX3_ok 0 (by decide)) rfl rfl (Nat.le_of_ble_eq_true rfl) hdg (fun H1 locs1 hP hD hS => kk H1 locs1 ⟨hP, hD, hS⟩)
set_option maxRecDepth 100000 in
theorem cf_X3_bytes (X : CallFix p m c cc nL s args (cw :: wG) own) (hm : Cond.fieldLink own idx "ClassFileIndex$Reader" "bytes" "[I" ∈ wG) (hK : cK dC dI k s) (hO : cO dC dI b k A H0 σ H locs) (g : σ.2.2.2.1 0 = some (b 1)) (hdg : decode cc pc = .ok (.getfield idx, 3)) (kk : W p l e R s m args below meth c H locs cells slots QF (F0 m (pc + 3) ls (.ref (b 1) :: rest))) : W p l e R s m args below meth c H locs cells slots QF (F0 m pc ls (.ref (b 10) :: rest)) :=
  va_get (D := (dC, dI)) (ci := 3) (C := RX3) (T := TX3) (N := 11) (v := va_rf (σ.2.2.2.1 0)) X.1 X.2.1 X.2.2.2.2 (fun w h => List.mem_cons_of_mem _ (wlX3 w h)) X.2.2.2.1 hK.1 hO.1 10 rfl rfl 1 (by decide) (X.2.2.2.2 _ (List.mem_cons_of_mem _ hm)) (fun _ h9 => h9) rfl hdg (by rw [g]; exact kk)
set_option maxRecDepth 100000 in
theorem cp_X3_bytes (X : CallFix p m c cc nL s args (cw :: wG) own) (hm : Cond.fieldLink own idx "ClassFileIndex$Reader" "bytes" "[I" ∈ wG) (hK : cK dC dI k s) (hO : cO dC dI b k A H0 σ H locs) (hdg : decode cc pc = .ok (.putfield idx, 3)) (kk : ∀ (H1 : Heap) (locs1 : List Loc), cO dC dI b k A H0 (sR σ 0 (b 1)) H1 locs1 → W p l e R s m args below meth c H1 locs1 cells slots QF (F0 m (pc + 3) ls rest)) : W p l e R s m args below meth c H locs cells slots QF (F0 m pc ls (.ref (b 1) :: .ref (b 10) :: rest)) :=
  va_put (D := (dC, dI)) (ci := 3) (C := RX3) (T := TX3) (N := 11) (v := .ref (b 1)) X.1 X.2.1 X.2.2.2.2 (fun w h => List.mem_cons_of_mem _ (wlX3 w h)) tyX3 tyX3_ok nmX3 X.2.2.2.1 hK.1 hO.1 hO.2.1 hO.2.2 10 rfl rfl 1 (by decide) (X.2.2.2.2 _ (List.mem_cons_of_mem _ hm)) (fun _ h9 => h9) rfl (tyX3_ok 1 (by decide)) rfl rfl (Nat.le_of_ble_eq_true rfl) hdg (fun H1 locs1 hP hD hS => kk H1 locs1 ⟨hP, hD, hS⟩)
set_option maxRecDepth 100000 in
theorem cf_X3_end (X : CallFix p m c cc nL s args (cw :: wG) own) (hm : Cond.fieldLink own idx "ClassFileIndex$Reader" "end" "I" ∈ wG) (hK : cK dC dI k s) (hO : cO dC dI b k A H0 σ H locs) (hdg : decode cc pc = .ok (.getfield idx, 3)) (kk : W p l e R s m args below meth c H locs cells slots QF (F0 m (pc + 3) ls (.int (σ.1 4) :: rest))) : W p l e R s m args below meth c H locs cells slots QF (F0 m pc ls (.ref (b 10) :: rest)) :=
  va_get (D := (dC, dI)) (ci := 3) (C := RX3) (T := TX3) (N := 11) (v := .int (σ.1 4)) X.1 X.2.1 X.2.2.2.2 (fun w h => List.mem_cons_of_mem _ (wlX3 w h)) X.2.2.2.1 hK.1 hO.1 10 rfl rfl 2 (by decide) (X.2.2.2.2 _ (List.mem_cons_of_mem _ hm)) (fun _ h9 => h9) rfl hdg kk
set_option maxRecDepth 100000 in
theorem cp_X3_end (X : CallFix p m c cc nL s args (cw :: wG) own) (hm : Cond.fieldLink own idx "ClassFileIndex$Reader" "end" "I" ∈ wG) (hK : cK dC dI k s) (hO : cO dC dI b k A H0 σ H locs) {x : Int32} (hdg : decode cc pc = .ok (.putfield idx, 3)) (kk : ∀ (H1 : Heap) (locs1 : List Loc), cO dC dI b k A H0 (sI σ 4 x) H1 locs1 → W p l e R s m args below meth c H1 locs1 cells slots QF (F0 m (pc + 3) ls rest)) : W p l e R s m args below meth c H locs cells slots QF (F0 m pc ls (.int x :: .ref (b 10) :: rest)) :=
  va_put (D := (dC, dI)) (ci := 3) (C := RX3) (T := TX3) (N := 11) (v := .int x) X.1 X.2.1 X.2.2.2.2 (fun w h => List.mem_cons_of_mem _ (wlX3 w h)) tyX3 tyX3_ok nmX3 X.2.2.2.1 hK.1 hO.1 hO.2.1 hO.2.2 10 rfl rfl 2 (by decide) (X.2.2.2.2 _ (List.mem_cons_of_mem _ hm)) (fun _ h9 => h9) rfl (tyX3_ok 2 (by decide)) rfl rfl (Nat.le_of_ble_eq_true rfl) hdg (fun H1 locs1 hP hD hS => kk H1 locs1 ⟨hP, hD, hS⟩)
set_option maxRecDepth 100000 in
theorem cf_X3_place (X : CallFix p m c cc nL s args (cw :: wG) own) (hm : Cond.fieldLink own idx "ClassFileIndex$Reader" "place" "I" ∈ wG) (hK : cK dC dI k s) (hO : cO dC dI b k A H0 σ H locs) (hdg : decode cc pc = .ok (.getfield idx, 3)) (kk : W p l e R s m args below meth c H locs cells slots QF (F0 m (pc + 3) ls (.int (σ.1 5) :: rest))) : W p l e R s m args below meth c H locs cells slots QF (F0 m pc ls (.ref (b 10) :: rest)) :=
  va_get (D := (dC, dI)) (ci := 3) (C := RX3) (T := TX3) (N := 11) (v := .int (σ.1 5)) X.1 X.2.1 X.2.2.2.2 (fun w h => List.mem_cons_of_mem _ (wlX3 w h)) X.2.2.2.1 hK.1 hO.1 10 rfl rfl 3 (by decide) (X.2.2.2.2 _ (List.mem_cons_of_mem _ hm)) (fun _ h9 => h9) rfl hdg kk
set_option maxRecDepth 100000 in
theorem cp_X3_place (X : CallFix p m c cc nL s args (cw :: wG) own) (hm : Cond.fieldLink own idx "ClassFileIndex$Reader" "place" "I" ∈ wG) (hK : cK dC dI k s) (hO : cO dC dI b k A H0 σ H locs) {x : Int32} (hdg : decode cc pc = .ok (.putfield idx, 3)) (kk : ∀ (H1 : Heap) (locs1 : List Loc), cO dC dI b k A H0 (sI σ 5 x) H1 locs1 → W p l e R s m args below meth c H1 locs1 cells slots QF (F0 m (pc + 3) ls rest)) : W p l e R s m args below meth c H locs cells slots QF (F0 m pc ls (.int x :: .ref (b 10) :: rest)) :=
  va_put (D := (dC, dI)) (ci := 3) (C := RX3) (T := TX3) (N := 11) (v := .int x) X.1 X.2.1 X.2.2.2.2 (fun w h => List.mem_cons_of_mem _ (wlX3 w h)) tyX3 tyX3_ok nmX3 X.2.2.2.1 hK.1 hO.1 hO.2.1 hO.2.2 10 rfl rfl 3 (by decide) (X.2.2.2.2 _ (List.mem_cons_of_mem _ hm)) (fun _ h9 => h9) rfl (tyX3_ok 3 (by decide)) rfl rfl (Nat.le_of_ble_eq_true rfl) hdg (fun H1 locs1 hP hD hS => kk H1 locs1 ⟨hP, hD, hS⟩)
set_option maxRecDepth 100000 in
theorem cf_X3_texts (X : CallFix p m c cc nL s args (cw :: wG) own) (hm : Cond.fieldLink own idx "ClassFileIndex$Reader" "texts" "LClassFileIndex$Texts;" ∈ wG) (hK : cK dC dI k s) (hO : cO dC dI b k A H0 σ H locs) (g : σ.2.2.2.1 1 = some (b 2)) (hdg : decode cc pc = .ok (.getfield idx, 3)) (kk : W p l e R s m args below meth c H locs cells slots QF (F0 m (pc + 3) ls (.ref (b 2) :: rest))) : W p l e R s m args below meth c H locs cells slots QF (F0 m pc ls (.ref (b 10) :: rest)) :=
  va_get (D := (dC, dI)) (ci := 3) (C := RX3) (T := TX3) (N := 11) (v := va_rf (σ.2.2.2.1 1)) X.1 X.2.1 X.2.2.2.2 (fun w h => List.mem_cons_of_mem _ (wlX3 w h)) X.2.2.2.1 hK.1 hO.1 10 rfl rfl 4 (by decide) (X.2.2.2.2 _ (List.mem_cons_of_mem _ hm)) (fun _ h9 => h9) rfl hdg (by rw [g]; exact kk)
set_option maxRecDepth 100000 in
theorem cp_X3_texts (X : CallFix p m c cc nL s args (cw :: wG) own) (hm : Cond.fieldLink own idx "ClassFileIndex$Reader" "texts" "LClassFileIndex$Texts;" ∈ wG) (hK : cK dC dI k s) (hO : cO dC dI b k A H0 σ H locs) (hdg : decode cc pc = .ok (.putfield idx, 3)) (kk : ∀ (H1 : Heap) (locs1 : List Loc), cO dC dI b k A H0 (sR σ 1 (b 2)) H1 locs1 → W p l e R s m args below meth c H1 locs1 cells slots QF (F0 m (pc + 3) ls rest)) : W p l e R s m args below meth c H locs cells slots QF (F0 m pc ls (.ref (b 2) :: .ref (b 10) :: rest)) :=
  va_put (D := (dC, dI)) (ci := 3) (C := RX3) (T := TX3) (N := 11) (v := .ref (b 2)) X.1 X.2.1 X.2.2.2.2 (fun w h => List.mem_cons_of_mem _ (wlX3 w h)) tyX3 tyX3_ok nmX3 X.2.2.2.1 hK.1 hO.1 hO.2.1 hO.2.2 10 rfl rfl 4 (by decide) (X.2.2.2.2 _ (List.mem_cons_of_mem _ hm)) (fun _ h9 => h9) rfl (tyX3_ok 4 (by decide)) rfl rfl (Nat.le_of_ble_eq_true rfl) hdg (fun H1 locs1 hP hD hS => kk H1 locs1 ⟨hP, hD, hS⟩)
set_option maxRecDepth 100000 in
theorem cf_X3_classes (X : CallFix p m c cc nL s args (cw :: wG) own) (hm : Cond.fieldLink own idx "ClassFileIndex$Reader" "classes" "LClassFileIndex$Classes;" ∈ wG) (hK : cK dC dI k s) (hO : cO dC dI b k A H0 σ H locs) (g : σ.2.2.2.1 2 = some (b 5)) (hdg : decode cc pc = .ok (.getfield idx, 3)) (kk : W p l e R s m args below meth c H locs cells slots QF (F0 m (pc + 3) ls (.ref (b 5) :: rest))) : W p l e R s m args below meth c H locs cells slots QF (F0 m pc ls (.ref (b 10) :: rest)) :=
  va_get (D := (dC, dI)) (ci := 3) (C := RX3) (T := TX3) (N := 11) (v := va_rf (σ.2.2.2.1 2)) X.1 X.2.1 X.2.2.2.2 (fun w h => List.mem_cons_of_mem _ (wlX3 w h)) X.2.2.2.1 hK.1 hO.1 10 rfl rfl 5 (by decide) (X.2.2.2.2 _ (List.mem_cons_of_mem _ hm)) (fun _ h9 => h9) rfl hdg (by rw [g]; exact kk)
set_option maxRecDepth 100000 in
theorem cp_X3_classes (X : CallFix p m c cc nL s args (cw :: wG) own) (hm : Cond.fieldLink own idx "ClassFileIndex$Reader" "classes" "LClassFileIndex$Classes;" ∈ wG) (hK : cK dC dI k s) (hO : cO dC dI b k A H0 σ H locs) (hdg : decode cc pc = .ok (.putfield idx, 3)) (kk : ∀ (H1 : Heap) (locs1 : List Loc), cO dC dI b k A H0 (sR σ 2 (b 5)) H1 locs1 → W p l e R s m args below meth c H1 locs1 cells slots QF (F0 m (pc + 3) ls rest)) : W p l e R s m args below meth c H locs cells slots QF (F0 m pc ls (.ref (b 5) :: .ref (b 10) :: rest)) :=
  va_put (D := (dC, dI)) (ci := 3) (C := RX3) (T := TX3) (N := 11) (v := .ref (b 5)) X.1 X.2.1 X.2.2.2.2 (fun w h => List.mem_cons_of_mem _ (wlX3 w h)) tyX3 tyX3_ok nmX3 X.2.2.2.1 hK.1 hO.1 hO.2.1 hO.2.2 10 rfl rfl 5 (by decide) (X.2.2.2.2 _ (List.mem_cons_of_mem _ hm)) (fun _ h9 => h9) rfl (tyX3_ok 5 (by decide)) rfl rfl (Nat.le_of_ble_eq_true rfl) hdg (fun H1 locs1 hP hD hS => kk H1 locs1 ⟨hP, hD, hS⟩)
set_option maxRecDepth 100000 in
theorem cf_X3_constants (X : CallFix p m c cc nL s args (cw :: wG) own) (hm : Cond.fieldLink own idx "ClassFileIndex$Reader" "constants" "I" ∈ wG) (hK : cK dC dI k s) (hO : cO dC dI b k A H0 σ H locs) (hdg : decode cc pc = .ok (.getfield idx, 3)) (kk : W p l e R s m args below meth c H locs cells slots QF (F0 m (pc + 3) ls (.int (σ.1 6) :: rest))) : W p l e R s m args below meth c H locs cells slots QF (F0 m pc ls (.ref (b 10) :: rest)) :=
  va_get (D := (dC, dI)) (ci := 3) (C := RX3) (T := TX3) (N := 11) (v := .int (σ.1 6)) X.1 X.2.1 X.2.2.2.2 (fun w h => List.mem_cons_of_mem _ (wlX3 w h)) X.2.2.2.1 hK.1 hO.1 10 rfl rfl 6 (by decide) (X.2.2.2.2 _ (List.mem_cons_of_mem _ hm)) (fun _ h9 => h9) rfl hdg kk
set_option maxRecDepth 100000 in
theorem cp_X3_constants (X : CallFix p m c cc nL s args (cw :: wG) own) (hm : Cond.fieldLink own idx "ClassFileIndex$Reader" "constants" "I" ∈ wG) (hK : cK dC dI k s) (hO : cO dC dI b k A H0 σ H locs) {x : Int32} (hdg : decode cc pc = .ok (.putfield idx, 3)) (kk : ∀ (H1 : Heap) (locs1 : List Loc), cO dC dI b k A H0 (sI σ 6 x) H1 locs1 → W p l e R s m args below meth c H1 locs1 cells slots QF (F0 m (pc + 3) ls rest)) : W p l e R s m args below meth c H locs cells slots QF (F0 m pc ls (.int x :: .ref (b 10) :: rest)) :=
  va_put (D := (dC, dI)) (ci := 3) (C := RX3) (T := TX3) (N := 11) (v := .int x) X.1 X.2.1 X.2.2.2.2 (fun w h => List.mem_cons_of_mem _ (wlX3 w h)) tyX3 tyX3_ok nmX3 X.2.2.2.1 hK.1 hO.1 hO.2.1 hO.2.2 10 rfl rfl 6 (by decide) (X.2.2.2.2 _ (List.mem_cons_of_mem _ hm)) (fun _ h9 => h9) rfl (tyX3_ok 6 (by decide)) rfl rfl (Nat.le_of_ble_eq_true rfl) hdg (fun H1 locs1 hP hD hS => kk H1 locs1 ⟨hP, hD, hS⟩)
set_option maxRecDepth 100000 in
theorem cf_X3_kinds (X : CallFix p m c cc nL s args (cw :: wG) own) (hm : Cond.fieldLink own idx "ClassFileIndex$Reader" "kinds" "[I" ∈ wG) (hK : cK dC dI k s) (hO : cO dC dI b k A H0 σ H locs) (hdg : decode cc pc = .ok (.getfield idx, 3)) (kk : W p l e R s m args below meth c H locs cells slots QF (F0 m (pc + 3) ls (.ref (b 11) :: rest))) : W p l e R s m args below meth c H locs cells slots QF (F0 m pc ls (.ref (b 10) :: rest)) :=
  va_get (D := (dC, dI)) (ci := 3) (C := RX3) (T := TX3) (N := 11) (v := .ref (b 11)) X.1 X.2.1 X.2.2.2.2 (fun w h => List.mem_cons_of_mem _ (wlX3 w h)) X.2.2.2.1 hK.1 hO.1 10 rfl rfl 7 (by decide) (X.2.2.2.2 _ (List.mem_cons_of_mem _ hm)) (fun _ h9 => h9) rfl hdg kk
set_option maxRecDepth 100000 in
theorem cf_X3_numbers (X : CallFix p m c cc nL s args (cw :: wG) own) (hm : Cond.fieldLink own idx "ClassFileIndex$Reader" "numbers" "[I" ∈ wG) (hK : cK dC dI k s) (hO : cO dC dI b k A H0 σ H locs) (hdg : decode cc pc = .ok (.getfield idx, 3)) (kk : W p l e R s m args below meth c H locs cells slots QF (F0 m (pc + 3) ls (.ref (b 12) :: rest))) : W p l e R s m args below meth c H locs cells slots QF (F0 m pc ls (.ref (b 10) :: rest)) :=
  va_get (D := (dC, dI)) (ci := 3) (C := RX3) (T := TX3) (N := 11) (v := .ref (b 12)) X.1 X.2.1 X.2.2.2.2 (fun w h => List.mem_cons_of_mem _ (wlX3 w h)) X.2.2.2.1 hK.1 hO.1 10 rfl rfl 8 (by decide) (X.2.2.2.2 _ (List.mem_cons_of_mem _ hm)) (fun _ h9 => h9) rfl hdg kk
set_option maxRecDepth 100000 in
theorem cf_X3_places (X : CallFix p m c cc nL s args (cw :: wG) own) (hm : Cond.fieldLink own idx "ClassFileIndex$Reader" "places" "[I" ∈ wG) (hK : cK dC dI k s) (hO : cO dC dI b k A H0 σ H locs) (hdg : decode cc pc = .ok (.getfield idx, 3)) (kk : W p l e R s m args below meth c H locs cells slots QF (F0 m (pc + 3) ls (.ref (b 13) :: rest))) : W p l e R s m args below meth c H locs cells slots QF (F0 m pc ls (.ref (b 10) :: rest)) :=
  va_get (D := (dC, dI)) (ci := 3) (C := RX3) (T := TX3) (N := 11) (v := .ref (b 13)) X.1 X.2.1 X.2.2.2.2 (fun w h => List.mem_cons_of_mem _ (wlX3 w h)) X.2.2.2.1 hK.1 hO.1 10 rfl rfl 9 (by decide) (X.2.2.2.2 _ (List.mem_cons_of_mem _ hm)) (fun _ h9 => h9) rfl hdg kk
set_option maxRecDepth 100000 in
theorem cf_X3_noParts (X : CallFix p m c cc nL s args (cw :: wG) own) (hm : Cond.fieldLink own idx "ClassFileIndex$Reader" "noParts" "LClassFileIndex$Parts;" ∈ wG) (hK : cK dC dI k s) (hO : cO dC dI b k A H0 σ H locs) (hdg : decode cc pc = .ok (.getfield idx, 3)) (kk : W p l e R s m args below meth c H locs cells slots QF (F0 m (pc + 3) ls (.ref (b 14) :: rest))) : W p l e R s m args below meth c H locs cells slots QF (F0 m pc ls (.ref (b 10) :: rest)) :=
  va_get (D := (dC, dI)) (ci := 3) (C := RX3) (T := TX3) (N := 11) (v := .ref (b 14)) X.1 X.2.1 X.2.2.2.2 (fun w h => List.mem_cons_of_mem _ (wlX3 w h)) X.2.2.2.1 hK.1 hO.1 10 rfl rfl 10 (by decide) (X.2.2.2.2 _ (List.mem_cons_of_mem _ hm)) (fun _ h9 => h9) rfl hdg kk
set_option maxRecDepth 100000 in
theorem cg_X5_kind (X : CallFix p m c cc nL s args (cw :: wG) own) (hm : Cond.fieldLink own idx "ClassFileIndex$Value" "kind" "I" ∈ wG) (hK : cK dC dI k s) (hO : cO dC dI b k A H0 σ H locs) {v : Int32} (g : pI σ.2.2.2.2 o 5 0 v) (hdg : decode cc pc = .ok (.getfield idx, 3)) (kk : W p l e R s m args below meth c H locs cells slots QF (F0 m (pc + 3) ls (.int v :: rest))) : W p l e R s m args below meth c H locs cells slots QF (F0 m pc ls (va_rf o :: rest)) := by
  obtain ⟨x, j, fs, e9, hj, hv⟩ := g
  subst e9
  exact va_get (D := (dC, dI)) (ci := 5) (C := RX5) (T := TX5) (N := 3) (v := .int v) X.1 X.2.1 X.2.2.2.2 (fun w h => List.mem_cons_of_mem _ (wlX5 w h)) X.2.2.2.1 hK.1 hO.1 _ (cpl hj) rfl 0 (by decide) (X.2.2.2.2 _ (List.mem_cons_of_mem _ hm)) (fun _ h9 => h9) hv hdg kk
set_option maxRecDepth 100000 in
theorem cw_X5_kind (X : CallFix p m c cc nL s args (cw :: wG) RX5) (hm : Cond.fieldLink RX5 idx "ClassFileIndex$Value" "kind" "I" ∈ wG) (hK : cK dC dI k s) (hO : cO dC dI b k A H0 σ H locs) (hin0 : meth.name = "<init>") {x : Int32} {h j : Nat} {fs : List Value} (hj : σ.2.2.2.2[j]? = some (h, .inr (5, fs))) (hlen : 0 < fs.length) (hdg : decode cc pc = .ok (.putfield idx, 3)) (kk : ∀ (H1 : Heap) (locs1 : List Loc), cO dC dI b k A H0 (sP σ j (h, .inr (5, fs.set 0 (.int x)))) H1 locs1 → W p l e R s m args below meth c H1 locs1 cells slots QF (F0 m (pc + 3) ls rest)) : W p l e R s m args below meth c H locs cells slots QF (F0 m pc ls (.int x :: .ref h :: rest)) :=
  va_putF (D := (dC, dI)) (ci := 5) (C := RX5) (T := TX5) (N := 3) (v := .int x) X.1 X.2.1 X.2.2.2.2 (fun w h => List.mem_cons_of_mem _ (wlX5 w h)) tyX5 tyX5_ok nmX5 X.2.2.2.1 hK.1 hO.1 hO.2.1 hO.2.2 _ (cpl hj) rfl 0 (by decide) (X.2.2.2.2 _ (List.mem_cons_of_mem _ hm)) (fun _ h9 => h9) rfl hin0 rfl (tyX5_ok 0 (by decide)) rfl rfl hlen hdg (fun H1 locs1 hP hD hS => kk H1 locs1 ⟨by rw [← cps]; exact hP, by rw [← cps]; exact hD, hS⟩)
set_option maxRecDepth 100000 in
theorem cg_X5_number (X : CallFix p m c cc nL s args (cw :: wG) own) (hm : Cond.fieldLink own idx "ClassFileIndex$Value" "number" "I" ∈ wG) (hK : cK dC dI k s) (hO : cO dC dI b k A H0 σ H locs) {v : Int32} (g : pI σ.2.2.2.2 o 5 1 v) (hdg : decode cc pc = .ok (.getfield idx, 3)) (kk : W p l e R s m args below meth c H locs cells slots QF (F0 m (pc + 3) ls (.int v :: rest))) : W p l e R s m args below meth c H locs cells slots QF (F0 m pc ls (va_rf o :: rest)) := by
  obtain ⟨x, j, fs, e9, hj, hv⟩ := g
  subst e9
  exact va_get (D := (dC, dI)) (ci := 5) (C := RX5) (T := TX5) (N := 3) (v := .int v) X.1 X.2.1 X.2.2.2.2 (fun w h => List.mem_cons_of_mem _ (wlX5 w h)) X.2.2.2.1 hK.1 hO.1 _ (cpl hj) rfl 1 (by decide) (X.2.2.2.2 _ (List.mem_cons_of_mem _ hm)) (fun _ h9 => h9) hv hdg kk
set_option maxRecDepth 100000 in
theorem cw_X5_number (X : CallFix p m c cc nL s args (cw :: wG) RX5) (hm : Cond.fieldLink RX5 idx "ClassFileIndex$Value" "number" "I" ∈ wG) (hK : cK dC dI k s) (hO : cO dC dI b k A H0 σ H locs) (hin0 : meth.name = "<init>") {x : Int32} {h j : Nat} {fs : List Value} (hj : σ.2.2.2.2[j]? = some (h, .inr (5, fs))) (hlen : 1 < fs.length) (hdg : decode cc pc = .ok (.putfield idx, 3)) (kk : ∀ (H1 : Heap) (locs1 : List Loc), cO dC dI b k A H0 (sP σ j (h, .inr (5, fs.set 1 (.int x)))) H1 locs1 → W p l e R s m args below meth c H1 locs1 cells slots QF (F0 m (pc + 3) ls rest)) : W p l e R s m args below meth c H locs cells slots QF (F0 m pc ls (.int x :: .ref h :: rest)) :=
  va_putF (D := (dC, dI)) (ci := 5) (C := RX5) (T := TX5) (N := 3) (v := .int x) X.1 X.2.1 X.2.2.2.2 (fun w h => List.mem_cons_of_mem _ (wlX5 w h)) tyX5 tyX5_ok nmX5 X.2.2.2.1 hK.1 hO.1 hO.2.1 hO.2.2 _ (cpl hj) rfl 1 (by decide) (X.2.2.2.2 _ (List.mem_cons_of_mem _ hm)) (fun _ h9 => h9) rfl hin0 rfl (tyX5_ok 1 (by decide)) rfl rfl hlen hdg (fun H1 locs1 hP hD hS => kk H1 locs1 ⟨by rw [← cps]; exact hP, by rw [← cps]; exact hD, hS⟩)
set_option maxRecDepth 100000 in
theorem cg_X5_parts (X : CallFix p m c cc nL s args (cw :: wG) own) (hm : Cond.fieldLink own idx "ClassFileIndex$Value" "parts" "LClassFileIndex$Parts;" ∈ wG) (hK : cK dC dI k s) (hO : cO dC dI b k A H0 σ H locs) {v : Option Nat} (g : pR σ.2.2.2.2 o 5 2 v) (hdg : decode cc pc = .ok (.getfield idx, 3)) (kk : W p l e R s m args below meth c H locs cells slots QF (F0 m (pc + 3) ls (va_rf v :: rest))) : W p l e R s m args below meth c H locs cells slots QF (F0 m pc ls (va_rf o :: rest)) := by
  obtain ⟨x, j, fs, e9, hj, hv⟩ := g
  subst e9
  exact va_get (D := (dC, dI)) (ci := 5) (C := RX5) (T := TX5) (N := 3) (v := va_rf v) X.1 X.2.1 X.2.2.2.2 (fun w h => List.mem_cons_of_mem _ (wlX5 w h)) X.2.2.2.1 hK.1 hO.1 _ (cpl hj) rfl 2 (by decide) (X.2.2.2.2 _ (List.mem_cons_of_mem _ hm)) (fun _ h9 => h9) hv hdg kk
set_option maxRecDepth 100000 in
theorem cw_X5_parts (X : CallFix p m c cc nL s args (cw :: wG) RX5) (hm : Cond.fieldLink RX5 idx "ClassFileIndex$Value" "parts" "LClassFileIndex$Parts;" ∈ wG) (hK : cK dC dI k s) (hO : cO dC dI b k A H0 σ H locs) (hin0 : meth.name = "<init>") {h j : Nat} {fs : List Value} (hj : σ.2.2.2.2[j]? = some (h, .inr (5, fs))) (hlen : 2 < fs.length) (hdg : decode cc pc = .ok (.putfield idx, 3)) (kk : ∀ (H1 : Heap) (locs1 : List Loc), cO dC dI b k A H0 (sP σ j (h, .inr (5, fs.set 2 (va_rf o)))) H1 locs1 → W p l e R s m args below meth c H1 locs1 cells slots QF (F0 m (pc + 3) ls rest)) : W p l e R s m args below meth c H locs cells slots QF (F0 m pc ls (va_rf o :: .ref h :: rest)) :=
  va_putF (D := (dC, dI)) (ci := 5) (C := RX5) (T := TX5) (N := 3) (v := va_rf o) X.1 X.2.1 X.2.2.2.2 (fun w h => List.mem_cons_of_mem _ (wlX5 w h)) tyX5 tyX5_ok nmX5 X.2.2.2.1 hK.1 hO.1 hO.2.1 hO.2.2 _ (cpl hj) rfl 2 (by decide) (X.2.2.2.2 _ (List.mem_cons_of_mem _ hm)) (fun _ h9 => h9) rfl hin0 rfl (tyX5_ok 2 (by decide)) (by cases o <;> rfl) (by cases o <;> rfl) hlen hdg (fun H1 locs1 hP hD hS => kk H1 locs1 ⟨by rw [← cps]; exact hP, by rw [← cps]; exact hD, hS⟩)
set_option maxRecDepth 100000 in
theorem cn_X5 (X : CallFix p m c cc nL s args (cw :: wG) own) (hm : Cond.classLink own idx RX5 ∈ wG) (hK : cK dC dI k s) (hO : cO dC dI b k A H0 σ H locs) (hA : ∀ q, H0.size ≤ q → A q) (hc1 : cells + 1 ≤ R.cells) (hc2 : slots + 3 ≤ R.slots) (hdg : decode cc pc = .ok (.new idx, 3)) (kk : ∀ (q : Nat) (H1 : Heap), cO dC dI b k A H0 (sN σ (q, .inr (5, [.int 0, .int 0, .null]))) H1 locs → W p l e R s m args below meth c H1 locs (cells + 1) (slots + 3) QF (F0 m (pc + 3) ls (.ref q :: rest))) : W p l e R s m args below meth c H locs cells slots QF (F0 m pc ls rest) :=
  va_new (D := (dC, dI)) (ci := 5) (C := RX5) (T := TX5) (N := 3) (fs := [.int 0, .int 0, .null]) X.1 X.2.1 X.2.2.2.2 (fun w h => List.mem_cons_of_mem _ (wlX5 w h)) tyX5 tyX5_ok X.2.2.2.1 (X.2.2.2.2 _ (List.mem_cons_of_mem _ hm)) (X.2.2.2.2 _ (List.mem_cons_of_mem _ sX5)) (X.2.2.2.2 _ (List.mem_cons_of_mem _ iX5)) hK.1 hO.1 hO.2.1 hO.2.2 hA rfl (fun j hj => by
    rcases (show j = 0 ∨ j = 1 ∨ j = 2 by omega) with rfl | rfl | rfl <;> rfl) hc1 hc2 hdg (fun q H1 hP hD hS => kk q H1 ⟨by rw [← cpn]; exact hP, by rw [← cpn]; exact hD, hS⟩)
set_option maxRecDepth 100000 in
theorem cg_X2_names (X : CallFix p m c cc nL s args (cw :: wG) own) (hm : Cond.fieldLink own idx "ClassFileIndex$Parts" "names" "[I" ∈ wG) (hK : cK dC dI k s) (hO : cO dC dI b k A H0 σ H locs) {v : Option Nat} (g : pR σ.2.2.2.2 o 2 0 v) (hdg : decode cc pc = .ok (.getfield idx, 3)) (kk : W p l e R s m args below meth c H locs cells slots QF (F0 m (pc + 3) ls (va_rf v :: rest))) : W p l e R s m args below meth c H locs cells slots QF (F0 m pc ls (va_rf o :: rest)) := by
  obtain ⟨x, j, fs, e9, hj, hv⟩ := g
  subst e9
  exact va_get (D := (dC, dI)) (ci := 2) (C := RX2) (T := TX2) (N := 2) (v := va_rf v) X.1 X.2.1 X.2.2.2.2 (fun w h => List.mem_cons_of_mem _ (wlX2 w h)) X.2.2.2.1 hK.1 hO.1 _ (cpl hj) rfl 0 (by decide) (X.2.2.2.2 _ (List.mem_cons_of_mem _ hm)) (fun _ h9 => h9) hv hdg kk
set_option maxRecDepth 100000 in
theorem cw_X2_names (X : CallFix p m c cc nL s args (cw :: wG) RX2) (hm : Cond.fieldLink RX2 idx "ClassFileIndex$Parts" "names" "[I" ∈ wG) (hK : cK dC dI k s) (hO : cO dC dI b k A H0 σ H locs) (hin0 : meth.name = "<init>") {h j : Nat} {fs : List Value} (hj : σ.2.2.2.2[j]? = some (h, .inr (2, fs))) (hlen : 0 < fs.length) (hdg : decode cc pc = .ok (.putfield idx, 3)) (kk : ∀ (H1 : Heap) (locs1 : List Loc), cO dC dI b k A H0 (sP σ j (h, .inr (2, fs.set 0 (va_rf o)))) H1 locs1 → W p l e R s m args below meth c H1 locs1 cells slots QF (F0 m (pc + 3) ls rest)) : W p l e R s m args below meth c H locs cells slots QF (F0 m pc ls (va_rf o :: .ref h :: rest)) :=
  va_putF (D := (dC, dI)) (ci := 2) (C := RX2) (T := TX2) (N := 2) (v := va_rf o) X.1 X.2.1 X.2.2.2.2 (fun w h => List.mem_cons_of_mem _ (wlX2 w h)) tyX2 tyX2_ok nmX2 X.2.2.2.1 hK.1 hO.1 hO.2.1 hO.2.2 _ (cpl hj) rfl 0 (by decide) (X.2.2.2.2 _ (List.mem_cons_of_mem _ hm)) (fun _ h9 => h9) rfl hin0 rfl (tyX2_ok 0 (by decide)) (by cases o <;> rfl) (by cases o <;> rfl) hlen hdg (fun H1 locs1 hP hD hS => kk H1 locs1 ⟨by rw [← cps]; exact hP, by rw [← cps]; exact hD, hS⟩)
set_option maxRecDepth 100000 in
theorem cg_X2_values (X : CallFix p m c cc nL s args (cw :: wG) own) (hm : Cond.fieldLink own idx "ClassFileIndex$Parts" "values" "[LClassFileIndex$Value;" ∈ wG) (hK : cK dC dI k s) (hO : cO dC dI b k A H0 σ H locs) {v : Option Nat} (g : pR σ.2.2.2.2 o 2 1 v) (hdg : decode cc pc = .ok (.getfield idx, 3)) (kk : W p l e R s m args below meth c H locs cells slots QF (F0 m (pc + 3) ls (va_rf v :: rest))) : W p l e R s m args below meth c H locs cells slots QF (F0 m pc ls (va_rf o :: rest)) := by
  obtain ⟨x, j, fs, e9, hj, hv⟩ := g
  subst e9
  exact va_get (D := (dC, dI)) (ci := 2) (C := RX2) (T := TX2) (N := 2) (v := va_rf v) X.1 X.2.1 X.2.2.2.2 (fun w h => List.mem_cons_of_mem _ (wlX2 w h)) X.2.2.2.1 hK.1 hO.1 _ (cpl hj) rfl 1 (by decide) (X.2.2.2.2 _ (List.mem_cons_of_mem _ hm)) (fun _ h9 => h9) hv hdg kk
set_option maxRecDepth 100000 in
theorem cw_X2_values (X : CallFix p m c cc nL s args (cw :: wG) RX2) (hm : Cond.fieldLink RX2 idx "ClassFileIndex$Parts" "values" "[LClassFileIndex$Value;" ∈ wG) (hK : cK dC dI k s) (hO : cO dC dI b k A H0 σ H locs) (hin0 : meth.name = "<init>") {h j : Nat} {fs : List Value} (hj : σ.2.2.2.2[j]? = some (h, .inr (2, fs))) (hlen : 1 < fs.length) (hdg : decode cc pc = .ok (.putfield idx, 3)) (kk : ∀ (H1 : Heap) (locs1 : List Loc), cO dC dI b k A H0 (sP σ j (h, .inr (2, fs.set 1 (va_rf o)))) H1 locs1 → W p l e R s m args below meth c H1 locs1 cells slots QF (F0 m (pc + 3) ls rest)) : W p l e R s m args below meth c H locs cells slots QF (F0 m pc ls (va_rf o :: .ref h :: rest)) :=
  va_putF (D := (dC, dI)) (ci := 2) (C := RX2) (T := TX2) (N := 2) (v := va_rf o) X.1 X.2.1 X.2.2.2.2 (fun w h => List.mem_cons_of_mem _ (wlX2 w h)) tyX2 tyX2_ok nmX2 X.2.2.2.1 hK.1 hO.1 hO.2.1 hO.2.2 _ (cpl hj) rfl 1 (by decide) (X.2.2.2.2 _ (List.mem_cons_of_mem _ hm)) (fun _ h9 => h9) rfl hin0 rfl (tyX2_ok 1 (by decide)) (by cases o <;> rfl) (by cases o <;> rfl) hlen hdg (fun H1 locs1 hP hD hS => kk H1 locs1 ⟨by rw [← cps]; exact hP, by rw [← cps]; exact hD, hS⟩)
set_option maxRecDepth 100000 in
theorem cn_X2 (X : CallFix p m c cc nL s args (cw :: wG) own) (hm : Cond.classLink own idx RX2 ∈ wG) (hK : cK dC dI k s) (hO : cO dC dI b k A H0 σ H locs) (hA : ∀ q, H0.size ≤ q → A q) (hc1 : cells + 1 ≤ R.cells) (hc2 : slots + 2 ≤ R.slots) (hdg : decode cc pc = .ok (.new idx, 3)) (kk : ∀ (q : Nat) (H1 : Heap), cO dC dI b k A H0 (sN σ (q, .inr (2, [.null, .null]))) H1 locs → W p l e R s m args below meth c H1 locs (cells + 1) (slots + 2) QF (F0 m (pc + 3) ls (.ref q :: rest))) : W p l e R s m args below meth c H locs cells slots QF (F0 m pc ls rest) :=
  va_new (D := (dC, dI)) (ci := 2) (C := RX2) (T := TX2) (N := 2) (fs := [.null, .null]) X.1 X.2.1 X.2.2.2.2 (fun w h => List.mem_cons_of_mem _ (wlX2 w h)) tyX2 tyX2_ok X.2.2.2.1 (X.2.2.2.2 _ (List.mem_cons_of_mem _ hm)) (X.2.2.2.2 _ (List.mem_cons_of_mem _ sX2)) (X.2.2.2.2 _ (List.mem_cons_of_mem _ iX2)) hK.1 hO.1 hO.2.1 hO.2.2 hA rfl (fun j hj => by
    rcases (show j = 0 ∨ j = 1 by omega) with rfl | rfl <;> rfl) hc1 hc2 hdg (fun q H1 hP hD hS => kk q H1 ⟨by rw [← cpn]; exact hP, by rw [← cpn]; exact hD, hS⟩)
set_option maxRecDepth 100000 in
theorem cg_X0_name (X : CallFix p m c cc nL s args (cw :: wG) own) (hm : Cond.fieldLink own idx "ClassFileIndex$ClassFile" "name" "I" ∈ wG) (hK : cK dC dI k s) (hO : cO dC dI b k A H0 σ H locs) {v : Int32} (g : pI σ.2.2.2.2 o 0 0 v) (hdg : decode cc pc = .ok (.getfield idx, 3)) (kk : W p l e R s m args below meth c H locs cells slots QF (F0 m (pc + 3) ls (.int v :: rest))) : W p l e R s m args below meth c H locs cells slots QF (F0 m pc ls (va_rf o :: rest)) := by
  obtain ⟨x, j, fs, e9, hj, hv⟩ := g
  subst e9
  exact va_get (D := (dC, dI)) (ci := 0) (C := RX0) (T := TX0) (N := 8) (v := .int v) X.1 X.2.1 X.2.2.2.2 (fun w h => List.mem_cons_of_mem _ (wlX0 w h)) X.2.2.2.1 hK.1 hO.1 _ (cpl hj) rfl 0 (by decide) (X.2.2.2.2 _ (List.mem_cons_of_mem _ hm)) (fun _ h9 => h9) hv hdg kk
set_option maxRecDepth 100000 in
theorem cw_X0_name (X : CallFix p m c cc nL s args (cw :: wG) RX0) (hm : Cond.fieldLink RX0 idx "ClassFileIndex$ClassFile" "name" "I" ∈ wG) (hK : cK dC dI k s) (hO : cO dC dI b k A H0 σ H locs) (hin0 : meth.name = "<init>") {x : Int32} {h j : Nat} {fs : List Value} (hj : σ.2.2.2.2[j]? = some (h, .inr (0, fs))) (hlen : 0 < fs.length) (hdg : decode cc pc = .ok (.putfield idx, 3)) (kk : ∀ (H1 : Heap) (locs1 : List Loc), cO dC dI b k A H0 (sP σ j (h, .inr (0, fs.set 0 (.int x)))) H1 locs1 → W p l e R s m args below meth c H1 locs1 cells slots QF (F0 m (pc + 3) ls rest)) : W p l e R s m args below meth c H locs cells slots QF (F0 m pc ls (.int x :: .ref h :: rest)) :=
  va_putF (D := (dC, dI)) (ci := 0) (C := RX0) (T := TX0) (N := 8) (v := .int x) X.1 X.2.1 X.2.2.2.2 (fun w h => List.mem_cons_of_mem _ (wlX0 w h)) tyX0 tyX0_ok nmX0 X.2.2.2.1 hK.1 hO.1 hO.2.1 hO.2.2 _ (cpl hj) rfl 0 (by decide) (X.2.2.2.2 _ (List.mem_cons_of_mem _ hm)) (fun _ h9 => h9) rfl hin0 rfl (tyX0_ok 0 (by decide)) rfl rfl hlen hdg (fun H1 locs1 hP hD hS => kk H1 locs1 ⟨by rw [← cps]; exact hP, by rw [← cps]; exact hD, hS⟩)
set_option maxRecDepth 100000 in
theorem cg_X0_flags (X : CallFix p m c cc nL s args (cw :: wG) own) (hm : Cond.fieldLink own idx "ClassFileIndex$ClassFile" "flags" "I" ∈ wG) (hK : cK dC dI k s) (hO : cO dC dI b k A H0 σ H locs) {v : Int32} (g : pI σ.2.2.2.2 o 0 1 v) (hdg : decode cc pc = .ok (.getfield idx, 3)) (kk : W p l e R s m args below meth c H locs cells slots QF (F0 m (pc + 3) ls (.int v :: rest))) : W p l e R s m args below meth c H locs cells slots QF (F0 m pc ls (va_rf o :: rest)) := by
  obtain ⟨x, j, fs, e9, hj, hv⟩ := g
  subst e9
  exact va_get (D := (dC, dI)) (ci := 0) (C := RX0) (T := TX0) (N := 8) (v := .int v) X.1 X.2.1 X.2.2.2.2 (fun w h => List.mem_cons_of_mem _ (wlX0 w h)) X.2.2.2.1 hK.1 hO.1 _ (cpl hj) rfl 1 (by decide) (X.2.2.2.2 _ (List.mem_cons_of_mem _ hm)) (fun _ h9 => h9) hv hdg kk
set_option maxRecDepth 100000 in
theorem cw_X0_flags (X : CallFix p m c cc nL s args (cw :: wG) RX0) (hm : Cond.fieldLink RX0 idx "ClassFileIndex$ClassFile" "flags" "I" ∈ wG) (hK : cK dC dI k s) (hO : cO dC dI b k A H0 σ H locs) (hin0 : meth.name = "<init>") {x : Int32} {h j : Nat} {fs : List Value} (hj : σ.2.2.2.2[j]? = some (h, .inr (0, fs))) (hlen : 1 < fs.length) (hdg : decode cc pc = .ok (.putfield idx, 3)) (kk : ∀ (H1 : Heap) (locs1 : List Loc), cO dC dI b k A H0 (sP σ j (h, .inr (0, fs.set 1 (.int x)))) H1 locs1 → W p l e R s m args below meth c H1 locs1 cells slots QF (F0 m (pc + 3) ls rest)) : W p l e R s m args below meth c H locs cells slots QF (F0 m pc ls (.int x :: .ref h :: rest)) :=
  va_putF (D := (dC, dI)) (ci := 0) (C := RX0) (T := TX0) (N := 8) (v := .int x) X.1 X.2.1 X.2.2.2.2 (fun w h => List.mem_cons_of_mem _ (wlX0 w h)) tyX0 tyX0_ok nmX0 X.2.2.2.1 hK.1 hO.1 hO.2.1 hO.2.2 _ (cpl hj) rfl 1 (by decide) (X.2.2.2.2 _ (List.mem_cons_of_mem _ hm)) (fun _ h9 => h9) rfl hin0 rfl (tyX0_ok 1 (by decide)) rfl rfl hlen hdg (fun H1 locs1 hP hD hS => kk H1 locs1 ⟨by rw [← cps]; exact hP, by rw [← cps]; exact hD, hS⟩)
set_option maxRecDepth 100000 in
theorem cg_X0_superName (X : CallFix p m c cc nL s args (cw :: wG) own) (hm : Cond.fieldLink own idx "ClassFileIndex$ClassFile" "superName" "I" ∈ wG) (hK : cK dC dI k s) (hO : cO dC dI b k A H0 σ H locs) {v : Int32} (g : pI σ.2.2.2.2 o 0 2 v) (hdg : decode cc pc = .ok (.getfield idx, 3)) (kk : W p l e R s m args below meth c H locs cells slots QF (F0 m (pc + 3) ls (.int v :: rest))) : W p l e R s m args below meth c H locs cells slots QF (F0 m pc ls (va_rf o :: rest)) := by
  obtain ⟨x, j, fs, e9, hj, hv⟩ := g
  subst e9
  exact va_get (D := (dC, dI)) (ci := 0) (C := RX0) (T := TX0) (N := 8) (v := .int v) X.1 X.2.1 X.2.2.2.2 (fun w h => List.mem_cons_of_mem _ (wlX0 w h)) X.2.2.2.1 hK.1 hO.1 _ (cpl hj) rfl 2 (by decide) (X.2.2.2.2 _ (List.mem_cons_of_mem _ hm)) (fun _ h9 => h9) hv hdg kk
set_option maxRecDepth 100000 in
theorem cw_X0_superName (X : CallFix p m c cc nL s args (cw :: wG) RX0) (hm : Cond.fieldLink RX0 idx "ClassFileIndex$ClassFile" "superName" "I" ∈ wG) (hK : cK dC dI k s) (hO : cO dC dI b k A H0 σ H locs) (hin0 : meth.name = "<init>") {x : Int32} {h j : Nat} {fs : List Value} (hj : σ.2.2.2.2[j]? = some (h, .inr (0, fs))) (hlen : 2 < fs.length) (hdg : decode cc pc = .ok (.putfield idx, 3)) (kk : ∀ (H1 : Heap) (locs1 : List Loc), cO dC dI b k A H0 (sP σ j (h, .inr (0, fs.set 2 (.int x)))) H1 locs1 → W p l e R s m args below meth c H1 locs1 cells slots QF (F0 m (pc + 3) ls rest)) : W p l e R s m args below meth c H locs cells slots QF (F0 m pc ls (.int x :: .ref h :: rest)) :=
  va_putF (D := (dC, dI)) (ci := 0) (C := RX0) (T := TX0) (N := 8) (v := .int x) X.1 X.2.1 X.2.2.2.2 (fun w h => List.mem_cons_of_mem _ (wlX0 w h)) tyX0 tyX0_ok nmX0 X.2.2.2.1 hK.1 hO.1 hO.2.1 hO.2.2 _ (cpl hj) rfl 2 (by decide) (X.2.2.2.2 _ (List.mem_cons_of_mem _ hm)) (fun _ h9 => h9) rfl hin0 rfl (tyX0_ok 2 (by decide)) rfl rfl hlen hdg (fun H1 locs1 hP hD hS => kk H1 locs1 ⟨by rw [← cps]; exact hP, by rw [← cps]; exact hD, hS⟩)
set_option maxRecDepth 100000 in
theorem cg_X0_container (X : CallFix p m c cc nL s args (cw :: wG) own) (hm : Cond.fieldLink own idx "ClassFileIndex$ClassFile" "container" "I" ∈ wG) (hK : cK dC dI k s) (hO : cO dC dI b k A H0 σ H locs) {v : Int32} (g : pI σ.2.2.2.2 o 0 3 v) (hdg : decode cc pc = .ok (.getfield idx, 3)) (kk : W p l e R s m args below meth c H locs cells slots QF (F0 m (pc + 3) ls (.int v :: rest))) : W p l e R s m args below meth c H locs cells slots QF (F0 m pc ls (va_rf o :: rest)) := by
  obtain ⟨x, j, fs, e9, hj, hv⟩ := g
  subst e9
  exact va_get (D := (dC, dI)) (ci := 0) (C := RX0) (T := TX0) (N := 8) (v := .int v) X.1 X.2.1 X.2.2.2.2 (fun w h => List.mem_cons_of_mem _ (wlX0 w h)) X.2.2.2.1 hK.1 hO.1 _ (cpl hj) rfl 3 (by decide) (X.2.2.2.2 _ (List.mem_cons_of_mem _ hm)) (fun _ h9 => h9) hv hdg kk
set_option maxRecDepth 100000 in
theorem cw_X0_container (X : CallFix p m c cc nL s args (cw :: wG) RX0) (hm : Cond.fieldLink RX0 idx "ClassFileIndex$ClassFile" "container" "I" ∈ wG) (hK : cK dC dI k s) (hO : cO dC dI b k A H0 σ H locs) (hin0 : meth.name = "<init>") {x : Int32} {h j : Nat} {fs : List Value} (hj : σ.2.2.2.2[j]? = some (h, .inr (0, fs))) (hlen : 3 < fs.length) (hdg : decode cc pc = .ok (.putfield idx, 3)) (kk : ∀ (H1 : Heap) (locs1 : List Loc), cO dC dI b k A H0 (sP σ j (h, .inr (0, fs.set 3 (.int x)))) H1 locs1 → W p l e R s m args below meth c H1 locs1 cells slots QF (F0 m (pc + 3) ls rest)) : W p l e R s m args below meth c H locs cells slots QF (F0 m pc ls (.int x :: .ref h :: rest)) :=
  va_putF (D := (dC, dI)) (ci := 0) (C := RX0) (T := TX0) (N := 8) (v := .int x) X.1 X.2.1 X.2.2.2.2 (fun w h => List.mem_cons_of_mem _ (wlX0 w h)) tyX0 tyX0_ok nmX0 X.2.2.2.1 hK.1 hO.1 hO.2.1 hO.2.2 _ (cpl hj) rfl 3 (by decide) (X.2.2.2.2 _ (List.mem_cons_of_mem _ hm)) (fun _ h9 => h9) rfl hin0 rfl (tyX0_ok 3 (by decide)) rfl rfl hlen hdg (fun H1 locs1 hP hD hS => kk H1 locs1 ⟨by rw [← cps]; exact hP, by rw [← cps]; exact hD, hS⟩)
set_option maxRecDepth 100000 in
theorem cg_X0_annotations (X : CallFix p m c cc nL s args (cw :: wG) own) (hm : Cond.fieldLink own idx "ClassFileIndex$ClassFile" "annotations" "[LClassFileIndex$Value;" ∈ wG) (hK : cK dC dI k s) (hO : cO dC dI b k A H0 σ H locs) {v : Option Nat} (g : pR σ.2.2.2.2 o 0 4 v) (hdg : decode cc pc = .ok (.getfield idx, 3)) (kk : W p l e R s m args below meth c H locs cells slots QF (F0 m (pc + 3) ls (va_rf v :: rest))) : W p l e R s m args below meth c H locs cells slots QF (F0 m pc ls (va_rf o :: rest)) := by
  obtain ⟨x, j, fs, e9, hj, hv⟩ := g
  subst e9
  exact va_get (D := (dC, dI)) (ci := 0) (C := RX0) (T := TX0) (N := 8) (v := va_rf v) X.1 X.2.1 X.2.2.2.2 (fun w h => List.mem_cons_of_mem _ (wlX0 w h)) X.2.2.2.1 hK.1 hO.1 _ (cpl hj) rfl 4 (by decide) (X.2.2.2.2 _ (List.mem_cons_of_mem _ hm)) (fun _ h9 => h9) hv hdg kk
set_option maxRecDepth 100000 in
theorem cw_X0_annotations (X : CallFix p m c cc nL s args (cw :: wG) RX0) (hm : Cond.fieldLink RX0 idx "ClassFileIndex$ClassFile" "annotations" "[LClassFileIndex$Value;" ∈ wG) (hK : cK dC dI k s) (hO : cO dC dI b k A H0 σ H locs) (hin0 : meth.name = "<init>") {h j : Nat} {fs : List Value} (hj : σ.2.2.2.2[j]? = some (h, .inr (0, fs))) (hlen : 4 < fs.length) (hdg : decode cc pc = .ok (.putfield idx, 3)) (kk : ∀ (H1 : Heap) (locs1 : List Loc), cO dC dI b k A H0 (sP σ j (h, .inr (0, fs.set 4 (va_rf o)))) H1 locs1 → W p l e R s m args below meth c H1 locs1 cells slots QF (F0 m (pc + 3) ls rest)) : W p l e R s m args below meth c H locs cells slots QF (F0 m pc ls (va_rf o :: .ref h :: rest)) :=
  va_putF (D := (dC, dI)) (ci := 0) (C := RX0) (T := TX0) (N := 8) (v := va_rf o) X.1 X.2.1 X.2.2.2.2 (fun w h => List.mem_cons_of_mem _ (wlX0 w h)) tyX0 tyX0_ok nmX0 X.2.2.2.1 hK.1 hO.1 hO.2.1 hO.2.2 _ (cpl hj) rfl 4 (by decide) (X.2.2.2.2 _ (List.mem_cons_of_mem _ hm)) (fun _ h9 => h9) rfl hin0 rfl (tyX0_ok 4 (by decide)) (by cases o <;> rfl) (by cases o <;> rfl) hlen hdg (fun H1 locs1 hP hD hS => kk H1 locs1 ⟨by rw [← cps]; exact hP, by rw [← cps]; exact hD, hS⟩)
set_option maxRecDepth 100000 in
theorem cg_X0_defaults (X : CallFix p m c cc nL s args (cw :: wG) own) (hm : Cond.fieldLink own idx "ClassFileIndex$ClassFile" "defaults" "LClassFileIndex$Parts;" ∈ wG) (hK : cK dC dI k s) (hO : cO dC dI b k A H0 σ H locs) {v : Option Nat} (g : pR σ.2.2.2.2 o 0 5 v) (hdg : decode cc pc = .ok (.getfield idx, 3)) (kk : W p l e R s m args below meth c H locs cells slots QF (F0 m (pc + 3) ls (va_rf v :: rest))) : W p l e R s m args below meth c H locs cells slots QF (F0 m pc ls (va_rf o :: rest)) := by
  obtain ⟨x, j, fs, e9, hj, hv⟩ := g
  subst e9
  exact va_get (D := (dC, dI)) (ci := 0) (C := RX0) (T := TX0) (N := 8) (v := va_rf v) X.1 X.2.1 X.2.2.2.2 (fun w h => List.mem_cons_of_mem _ (wlX0 w h)) X.2.2.2.1 hK.1 hO.1 _ (cpl hj) rfl 5 (by decide) (X.2.2.2.2 _ (List.mem_cons_of_mem _ hm)) (fun _ h9 => h9) hv hdg kk
set_option maxRecDepth 100000 in
theorem cw_X0_defaults (X : CallFix p m c cc nL s args (cw :: wG) RX0) (hm : Cond.fieldLink RX0 idx "ClassFileIndex$ClassFile" "defaults" "LClassFileIndex$Parts;" ∈ wG) (hK : cK dC dI k s) (hO : cO dC dI b k A H0 σ H locs) (hin0 : meth.name = "<init>") {h j : Nat} {fs : List Value} (hj : σ.2.2.2.2[j]? = some (h, .inr (0, fs))) (hlen : 5 < fs.length) (hdg : decode cc pc = .ok (.putfield idx, 3)) (kk : ∀ (H1 : Heap) (locs1 : List Loc), cO dC dI b k A H0 (sP σ j (h, .inr (0, fs.set 5 (va_rf o)))) H1 locs1 → W p l e R s m args below meth c H1 locs1 cells slots QF (F0 m (pc + 3) ls rest)) : W p l e R s m args below meth c H locs cells slots QF (F0 m pc ls (va_rf o :: .ref h :: rest)) :=
  va_putF (D := (dC, dI)) (ci := 0) (C := RX0) (T := TX0) (N := 8) (v := va_rf o) X.1 X.2.1 X.2.2.2.2 (fun w h => List.mem_cons_of_mem _ (wlX0 w h)) tyX0 tyX0_ok nmX0 X.2.2.2.1 hK.1 hO.1 hO.2.1 hO.2.2 _ (cpl hj) rfl 5 (by decide) (X.2.2.2.2 _ (List.mem_cons_of_mem _ hm)) (fun _ h9 => h9) rfl hin0 rfl (tyX0_ok 5 (by decide)) (by cases o <;> rfl) (by cases o <;> rfl) hlen hdg (fun H1 locs1 hP hD hS => kk H1 locs1 ⟨by rw [← cps]; exact hP, by rw [← cps]; exact hD, hS⟩)
set_option maxRecDepth 100000 in
theorem cg_X0_supertypes (X : CallFix p m c cc nL s args (cw :: wG) own) (hm : Cond.fieldLink own idx "ClassFileIndex$ClassFile" "supertypes" "[I" ∈ wG) (hK : cK dC dI k s) (hO : cO dC dI b k A H0 σ H locs) {v : Option Nat} (g : pR σ.2.2.2.2 o 0 6 v) (hdg : decode cc pc = .ok (.getfield idx, 3)) (kk : W p l e R s m args below meth c H locs cells slots QF (F0 m (pc + 3) ls (va_rf v :: rest))) : W p l e R s m args below meth c H locs cells slots QF (F0 m pc ls (va_rf o :: rest)) := by
  obtain ⟨x, j, fs, e9, hj, hv⟩ := g
  subst e9
  exact va_get (D := (dC, dI)) (ci := 0) (C := RX0) (T := TX0) (N := 8) (v := va_rf v) X.1 X.2.1 X.2.2.2.2 (fun w h => List.mem_cons_of_mem _ (wlX0 w h)) X.2.2.2.1 hK.1 hO.1 _ (cpl hj) rfl 6 (by decide) (X.2.2.2.2 _ (List.mem_cons_of_mem _ hm)) (fun _ h9 => h9) hv hdg kk
set_option maxRecDepth 100000 in
theorem cw_X0_supertypes (X : CallFix p m c cc nL s args (cw :: wG) RX0) (hm : Cond.fieldLink RX0 idx "ClassFileIndex$ClassFile" "supertypes" "[I" ∈ wG) (hK : cK dC dI k s) (hO : cO dC dI b k A H0 σ H locs) (hin0 : meth.name = "<init>") {h j : Nat} {fs : List Value} (hj : σ.2.2.2.2[j]? = some (h, .inr (0, fs))) (hlen : 6 < fs.length) (hdg : decode cc pc = .ok (.putfield idx, 3)) (kk : ∀ (H1 : Heap) (locs1 : List Loc), cO dC dI b k A H0 (sP σ j (h, .inr (0, fs.set 6 (va_rf o)))) H1 locs1 → W p l e R s m args below meth c H1 locs1 cells slots QF (F0 m (pc + 3) ls rest)) : W p l e R s m args below meth c H locs cells slots QF (F0 m pc ls (va_rf o :: .ref h :: rest)) :=
  va_putF (D := (dC, dI)) (ci := 0) (C := RX0) (T := TX0) (N := 8) (v := va_rf o) X.1 X.2.1 X.2.2.2.2 (fun w h => List.mem_cons_of_mem _ (wlX0 w h)) tyX0 tyX0_ok nmX0 X.2.2.2.1 hK.1 hO.1 hO.2.1 hO.2.2 _ (cpl hj) rfl 6 (by decide) (X.2.2.2.2 _ (List.mem_cons_of_mem _ hm)) (fun _ h9 => h9) rfl hin0 rfl (tyX0_ok 6 (by decide)) (by cases o <;> rfl) (by cases o <;> rfl) hlen hdg (fun H1 locs1 hP hD hS => kk H1 locs1 ⟨by rw [← cps]; exact hP, by rw [← cps]; exact hD, hS⟩)
set_option maxRecDepth 100000 in
theorem cg_X0_annotationTypes (X : CallFix p m c cc nL s args (cw :: wG) own) (hm : Cond.fieldLink own idx "ClassFileIndex$ClassFile" "annotationTypes" "[I" ∈ wG) (hK : cK dC dI k s) (hO : cO dC dI b k A H0 σ H locs) {v : Option Nat} (g : pR σ.2.2.2.2 o 0 7 v) (hdg : decode cc pc = .ok (.getfield idx, 3)) (kk : W p l e R s m args below meth c H locs cells slots QF (F0 m (pc + 3) ls (va_rf v :: rest))) : W p l e R s m args below meth c H locs cells slots QF (F0 m pc ls (va_rf o :: rest)) := by
  obtain ⟨x, j, fs, e9, hj, hv⟩ := g
  subst e9
  exact va_get (D := (dC, dI)) (ci := 0) (C := RX0) (T := TX0) (N := 8) (v := va_rf v) X.1 X.2.1 X.2.2.2.2 (fun w h => List.mem_cons_of_mem _ (wlX0 w h)) X.2.2.2.1 hK.1 hO.1 _ (cpl hj) rfl 7 (by decide) (X.2.2.2.2 _ (List.mem_cons_of_mem _ hm)) (fun _ h9 => h9) hv hdg kk
set_option maxRecDepth 100000 in
theorem cw_X0_annotationTypes (X : CallFix p m c cc nL s args (cw :: wG) RX0) (hm : Cond.fieldLink RX0 idx "ClassFileIndex$ClassFile" "annotationTypes" "[I" ∈ wG) (hK : cK dC dI k s) (hO : cO dC dI b k A H0 σ H locs) (hin0 : meth.name = "<init>") {h j : Nat} {fs : List Value} (hj : σ.2.2.2.2[j]? = some (h, .inr (0, fs))) (hlen : 7 < fs.length) (hdg : decode cc pc = .ok (.putfield idx, 3)) (kk : ∀ (H1 : Heap) (locs1 : List Loc), cO dC dI b k A H0 (sP σ j (h, .inr (0, fs.set 7 (va_rf o)))) H1 locs1 → W p l e R s m args below meth c H1 locs1 cells slots QF (F0 m (pc + 3) ls rest)) : W p l e R s m args below meth c H locs cells slots QF (F0 m pc ls (va_rf o :: .ref h :: rest)) :=
  va_putF (D := (dC, dI)) (ci := 0) (C := RX0) (T := TX0) (N := 8) (v := va_rf o) X.1 X.2.1 X.2.2.2.2 (fun w h => List.mem_cons_of_mem _ (wlX0 w h)) tyX0 tyX0_ok nmX0 X.2.2.2.1 hK.1 hO.1 hO.2.1 hO.2.2 _ (cpl hj) rfl 7 (by decide) (X.2.2.2.2 _ (List.mem_cons_of_mem _ hm)) (fun _ h9 => h9) rfl hin0 rfl (tyX0_ok 7 (by decide)) (by cases o <;> rfl) (by cases o <;> rfl) hlen hdg (fun H1 locs1 hP hD hS => kk H1 locs1 ⟨by rw [← cps]; exact hP, by rw [← cps]; exact hD, hS⟩)
set_option maxRecDepth 100000 in
theorem cn_X0 (X : CallFix p m c cc nL s args (cw :: wG) own) (hm : Cond.classLink own idx RX0 ∈ wG) (hK : cK dC dI k s) (hO : cO dC dI b k A H0 σ H locs) (hA : ∀ q, H0.size ≤ q → A q) (hc1 : cells + 1 ≤ R.cells) (hc2 : slots + 8 ≤ R.slots) (hdg : decode cc pc = .ok (.new idx, 3)) (kk : ∀ (q : Nat) (H1 : Heap), cO dC dI b k A H0 (sN σ (q, .inr (0, [.int 0, .int 0, .int 0, .int 0, .null, .null, .null, .null]))) H1 locs → W p l e R s m args below meth c H1 locs (cells + 1) (slots + 8) QF (F0 m (pc + 3) ls (.ref q :: rest))) : W p l e R s m args below meth c H locs cells slots QF (F0 m pc ls rest) :=
  va_new (D := (dC, dI)) (ci := 0) (C := RX0) (T := TX0) (N := 8) (fs := [.int 0, .int 0, .int 0, .int 0, .null, .null, .null, .null]) X.1 X.2.1 X.2.2.2.2 (fun w h => List.mem_cons_of_mem _ (wlX0 w h)) tyX0 tyX0_ok X.2.2.2.1 (X.2.2.2.2 _ (List.mem_cons_of_mem _ hm)) (X.2.2.2.2 _ (List.mem_cons_of_mem _ sX0)) (X.2.2.2.2 _ (List.mem_cons_of_mem _ iX0)) hK.1 hO.1 hO.2.1 hO.2.2 hA rfl (fun j hj => by
    rcases (show j = 0 ∨ j = 1 ∨ j = 2 ∨ j = 3 ∨ j = 4 ∨ j = 5 ∨ j = 6 ∨ j = 7 by omega) with rfl | rfl | rfl | rfl | rfl | rfl | rfl | rfl <;> rfl) hc1 hc2 hdg (fun q H1 hP hD hS => kk q H1 ⟨by rw [← cpn]; exact hP, by rw [← cpn]; exact hD, hS⟩)
set_option maxRecDepth 100000 in
theorem ca_1 (hx : p.tables.exec = Jvm.exec) (hb : c.code = cc) (hK : cK dC dI k s) (hO : cO dC dI b k A H0 σ H locs) {i : Int32} (hi : vp_in i 120) (hdg : decode cc pc = .ok (.iaload, 1)) (kk : W p l e R s m args below meth c H locs cells slots QF (F0 m (pc + 1) ls (.int (σ.2.1 0 i.toNatClampNeg) :: rest))) : W p l e R s m args below meth c H locs cells slots QF (F0 m pc ls (.int i :: .ref (b 1) :: rest)) :=
  va_iald hx hb hK.1 hO.1 1 0 rfl rfl hi hdg kk
set_option maxRecDepth 100000 in
theorem cl_1 (hx : p.tables.exec = Jvm.exec) (hb : c.code = cc) (hK : cK dC dI k s) (hO : cO dC dI b k A H0 σ H locs) (hdg : decode cc pc = .ok (.arraylength, 1)) (kk : W p l e R s m args below meth c H locs cells slots QF (F0 m (pc + 1) ls (.int (120 : Int32) :: rest))) : W p l e R s m args below meth c H locs cells slots QF (F0 m pc ls (.ref (b 1) :: rest)) :=
  va_alen hx hb hK.1 hO.1 1 0 rfl rfl rfl hdg kk
set_option maxRecDepth 100000 in
theorem cs_1 (hx : p.tables.exec = Jvm.exec) (hb : c.code = cc) (hK : cK dC dI k s) (hO : cO dC dI b k A H0 σ H locs) {i x : Int32} (hi : vp_in i 120) (hdg : decode cc pc = .ok (.iastore, 1)) (kk : ∀ (H1 : Heap) (locs1 : List Loc), cO dC dI b k A H0 (sA σ 0 i x) H1 locs1 → W p l e R s m args below meth c H1 locs1 cells slots QF (F0 m (pc + 1) ls rest)) : W p l e R s m args below meth c H locs cells slots QF (F0 m pc ls (.int x :: .int i :: .ref (b 1) :: rest)) :=
  va_iast hx hb hK.1 hO.1 hO.2.1 hO.2.2 1 0 rfl rfl hi hdg (fun H1 locs1 hP hD hS => kk H1 locs1 ⟨hP, hD, hS⟩)
set_option maxRecDepth 100000 in
theorem ca_3 (hx : p.tables.exec = Jvm.exec) (hb : c.code = cc) (hK : cK dC dI k s) (hO : cO dC dI b k A H0 σ H locs) {i : Int32} (hi : vp_in i 1920) (hdg : decode cc pc = .ok (.baload, 1)) (kk : W p l e R s m args below meth c H locs cells slots QF (F0 m (pc + 1) ls (.int (σ.2.1 1 i.toNatClampNeg) :: rest))) : W p l e R s m args below meth c H locs cells slots QF (F0 m pc ls (.int i :: .ref (b 3) :: rest)) :=
  va_bald hx hb hK.1 hO.1 3 2 rfl rfl hi hdg kk
set_option maxRecDepth 100000 in
theorem cl_3 (hx : p.tables.exec = Jvm.exec) (hb : c.code = cc) (hK : cK dC dI k s) (hO : cO dC dI b k A H0 σ H locs) (hdg : decode cc pc = .ok (.arraylength, 1)) (kk : W p l e R s m args below meth c H locs cells slots QF (F0 m (pc + 1) ls (.int (1920 : Int32) :: rest))) : W p l e R s m args below meth c H locs cells slots QF (F0 m pc ls (.ref (b 3) :: rest)) :=
  va_alen hx hb hK.1 hO.1 3 2 rfl rfl rfl hdg kk
set_option maxRecDepth 100000 in
theorem cs_3 (hx : p.tables.exec = Jvm.exec) (hb : c.code = cc) (hK : cK dC dI k s) (hO : cO dC dI b k A H0 σ H locs) {i x : Int32} (hi : vp_in i 1920) (hdg : decode cc pc = .ok (.bastore, 1)) (kk : ∀ (H1 : Heap) (locs1 : List Loc), cO dC dI b k A H0 (sA σ 1 i (vp_nar .byte x)) H1 locs1 → W p l e R s m args below meth c H1 locs1 cells slots QF (F0 m (pc + 1) ls rest)) : W p l e R s m args below meth c H locs cells slots QF (F0 m pc ls (.int x :: .int i :: .ref (b 3) :: rest)) :=
  va_bast hx hb hK.1 hO.1 hO.2.1 hO.2.2 3 2 rfl rfl hi hdg (fun H1 locs1 hP hD hS => kk H1 locs1 ⟨hP, hD, hS⟩)
set_option maxRecDepth 100000 in
theorem ca_4 (hx : p.tables.exec = Jvm.exec) (hb : c.code = cc) (hK : cK dC dI k s) (hO : cO dC dI b k A H0 σ H locs) {i : Int32} (hi : vp_in i 192) (hdg : decode cc pc = .ok (.iaload, 1)) (kk : W p l e R s m args below meth c H locs cells slots QF (F0 m (pc + 1) ls (.int (σ.2.1 2 i.toNatClampNeg) :: rest))) : W p l e R s m args below meth c H locs cells slots QF (F0 m pc ls (.int i :: .ref (b 4) :: rest)) :=
  va_iald hx hb hK.1 hO.1 4 0 rfl rfl hi hdg kk
set_option maxRecDepth 100000 in
theorem cl_4 (hx : p.tables.exec = Jvm.exec) (hb : c.code = cc) (hK : cK dC dI k s) (hO : cO dC dI b k A H0 σ H locs) (hdg : decode cc pc = .ok (.arraylength, 1)) (kk : W p l e R s m args below meth c H locs cells slots QF (F0 m (pc + 1) ls (.int (192 : Int32) :: rest))) : W p l e R s m args below meth c H locs cells slots QF (F0 m pc ls (.ref (b 4) :: rest)) :=
  va_alen hx hb hK.1 hO.1 4 0 rfl rfl rfl hdg kk
set_option maxRecDepth 100000 in
theorem cs_4 (hx : p.tables.exec = Jvm.exec) (hb : c.code = cc) (hK : cK dC dI k s) (hO : cO dC dI b k A H0 σ H locs) {i x : Int32} (hi : vp_in i 192) (hdg : decode cc pc = .ok (.iastore, 1)) (kk : ∀ (H1 : Heap) (locs1 : List Loc), cO dC dI b k A H0 (sA σ 2 i x) H1 locs1 → W p l e R s m args below meth c H1 locs1 cells slots QF (F0 m (pc + 1) ls rest)) : W p l e R s m args below meth c H locs cells slots QF (F0 m pc ls (.int x :: .int i :: .ref (b 4) :: rest)) :=
  va_iast hx hb hK.1 hO.1 hO.2.1 hO.2.2 4 0 rfl rfl hi hdg (fun H1 locs1 hP hD hS => kk H1 locs1 ⟨hP, hD, hS⟩)
set_option maxRecDepth 100000 in
theorem ca_6 (hx : p.tables.exec = Jvm.exec) (hb : c.code = cc) (hK : cK dC dI k s) (hO : cO dC dI b k A H0 σ H locs) {i : Int32} (hi : vp_in i 16) (hdg : decode cc pc = .ok (.aaload, 1)) (kk : W p l e R s m args below meth c H locs cells slots QF (F0 m (pc + 1) ls (va_rf (σ.2.2.1 i.toNatClampNeg) :: rest))) : W p l e R s m args below meth c H locs cells slots QF (F0 m pc ls (.int i :: .ref (b 6) :: rest)) :=
  va_aldq hx hb hK.1 hO.1 6 4 rfl rfl hi hdg kk
set_option maxRecDepth 100000 in
theorem cl_6 (hx : p.tables.exec = Jvm.exec) (hb : c.code = cc) (hK : cK dC dI k s) (hO : cO dC dI b k A H0 σ H locs) (hdg : decode cc pc = .ok (.arraylength, 1)) (kk : W p l e R s m args below meth c H locs cells slots QF (F0 m (pc + 1) ls (.int (16 : Int32) :: rest))) : W p l e R s m args below meth c H locs cells slots QF (F0 m pc ls (.ref (b 6) :: rest)) :=
  va_alen hx hb hK.1 hO.1 6 4 rfl rfl rfl hdg kk
set_option maxRecDepth 100000 in
theorem cs_6 (hx : p.tables.exec = Jvm.exec) (hb : c.code = cc) (hK : cK dC dI k s) (hO : cO dC dI b k A H0 σ H locs) {i : Int32} (hi : vp_in i 16) (z : pO σ.2.2.2.2 o 0) (hdg : decode cc pc = .ok (.aastore, 1)) (kk : ∀ (H1 : Heap) (locs1 : List Loc), cO dC dI b k A H0 (sFl σ i o) H1 locs1 → W p l e R s m args below meth c H1 locs1 cells slots QF (F0 m (pc + 1) ls rest)) : W p l e R s m args below meth c H locs cells slots QF (F0 m pc ls (va_rf o :: .int i :: .ref (b 6) :: rest)) := by
  obtain ⟨x, e9, q, fs, hq⟩ := z
  subst e9
  exact va_astq hx hb hK.1 hO.1 hO.2.1 hO.2.2 6 4 _ 0 rfl rfl (cpl hq) rfl hi hdg (fun H1 locs1 hP hD hS => kk H1 locs1 ⟨hP, hD, hS⟩)
set_option maxRecDepth 100000 in
theorem ca_7 (hx : p.tables.exec = Jvm.exec) (hb : c.code = cc) (hK : cK dC dI k s) (hO : cO dC dI b k A H0 σ H locs) {i : Int32} (hi : vp_in i 192) (hdg : decode cc pc = .ok (.iaload, 1)) (kk : W p l e R s m args below meth c H locs cells slots QF (F0 m (pc + 1) ls (.int (σ.2.1 3 i.toNatClampNeg) :: rest))) : W p l e R s m args below meth c H locs cells slots QF (F0 m pc ls (.int i :: .ref (b 7) :: rest)) :=
  va_iald hx hb hK.1 hO.1 7 0 rfl rfl hi hdg kk
set_option maxRecDepth 100000 in
theorem cl_7 (hx : p.tables.exec = Jvm.exec) (hb : c.code = cc) (hK : cK dC dI k s) (hO : cO dC dI b k A H0 σ H locs) (hdg : decode cc pc = .ok (.arraylength, 1)) (kk : W p l e R s m args below meth c H locs cells slots QF (F0 m (pc + 1) ls (.int (192 : Int32) :: rest))) : W p l e R s m args below meth c H locs cells slots QF (F0 m pc ls (.ref (b 7) :: rest)) :=
  va_alen hx hb hK.1 hO.1 7 0 rfl rfl rfl hdg kk
set_option maxRecDepth 100000 in
theorem cs_7 (hx : p.tables.exec = Jvm.exec) (hb : c.code = cc) (hK : cK dC dI k s) (hO : cO dC dI b k A H0 σ H locs) {i x : Int32} (hi : vp_in i 192) (hdg : decode cc pc = .ok (.iastore, 1)) (kk : ∀ (H1 : Heap) (locs1 : List Loc), cO dC dI b k A H0 (sA σ 3 i x) H1 locs1 → W p l e R s m args below meth c H1 locs1 cells slots QF (F0 m (pc + 1) ls rest)) : W p l e R s m args below meth c H locs cells slots QF (F0 m pc ls (.int x :: .int i :: .ref (b 7) :: rest)) :=
  va_iast hx hb hK.1 hO.1 hO.2.1 hO.2.2 7 0 rfl rfl hi hdg (fun H1 locs1 hP hD hS => kk H1 locs1 ⟨hP, hD, hS⟩)
set_option maxRecDepth 100000 in
theorem ca_8 (hx : p.tables.exec = Jvm.exec) (hb : c.code = cc) (hK : cK dC dI k s) (hO : cO dC dI b k A H0 σ H locs) {i : Int32} (hi : vp_in i 16) (hdg : decode cc pc = .ok (.iaload, 1)) (kk : W p l e R s m args below meth c H locs cells slots QF (F0 m (pc + 1) ls (.int (σ.2.1 4 i.toNatClampNeg) :: rest))) : W p l e R s m args below meth c H locs cells slots QF (F0 m pc ls (.int i :: .ref (b 8) :: rest)) :=
  va_iald hx hb hK.1 hO.1 8 0 rfl rfl hi hdg kk
set_option maxRecDepth 100000 in
theorem cl_8 (hx : p.tables.exec = Jvm.exec) (hb : c.code = cc) (hK : cK dC dI k s) (hO : cO dC dI b k A H0 σ H locs) (hdg : decode cc pc = .ok (.arraylength, 1)) (kk : W p l e R s m args below meth c H locs cells slots QF (F0 m (pc + 1) ls (.int (16 : Int32) :: rest))) : W p l e R s m args below meth c H locs cells slots QF (F0 m pc ls (.ref (b 8) :: rest)) :=
  va_alen hx hb hK.1 hO.1 8 0 rfl rfl rfl hdg kk
set_option maxRecDepth 100000 in
theorem cs_8 (hx : p.tables.exec = Jvm.exec) (hb : c.code = cc) (hK : cK dC dI k s) (hO : cO dC dI b k A H0 σ H locs) {i x : Int32} (hi : vp_in i 16) (hdg : decode cc pc = .ok (.iastore, 1)) (kk : ∀ (H1 : Heap) (locs1 : List Loc), cO dC dI b k A H0 (sA σ 4 i x) H1 locs1 → W p l e R s m args below meth c H1 locs1 cells slots QF (F0 m (pc + 1) ls rest)) : W p l e R s m args below meth c H locs cells slots QF (F0 m pc ls (.int x :: .int i :: .ref (b 8) :: rest)) :=
  va_iast hx hb hK.1 hO.1 hO.2.1 hO.2.2 8 0 rfl rfl hi hdg (fun H1 locs1 hP hD hS => kk H1 locs1 ⟨hP, hD, hS⟩)
set_option maxRecDepth 100000 in
theorem ca_9 (hx : p.tables.exec = Jvm.exec) (hb : c.code = cc) (hK : cK dC dI k s) (hO : cO dC dI b k A H0 σ H locs) {i : Int32} (hi : vp_in i 16) (hdg : decode cc pc = .ok (.baload, 1)) (kk : W p l e R s m args below meth c H locs cells slots QF (F0 m (pc + 1) ls (.int (σ.2.1 5 i.toNatClampNeg) :: rest))) : W p l e R s m args below meth c H locs cells slots QF (F0 m pc ls (.int i :: .ref (b 9) :: rest)) :=
  va_zald hx hb hK.1 hO.1 9 1 rfl rfl hi hdg kk
set_option maxRecDepth 100000 in
theorem cl_9 (hx : p.tables.exec = Jvm.exec) (hb : c.code = cc) (hK : cK dC dI k s) (hO : cO dC dI b k A H0 σ H locs) (hdg : decode cc pc = .ok (.arraylength, 1)) (kk : W p l e R s m args below meth c H locs cells slots QF (F0 m (pc + 1) ls (.int (16 : Int32) :: rest))) : W p l e R s m args below meth c H locs cells slots QF (F0 m pc ls (.ref (b 9) :: rest)) :=
  va_alen hx hb hK.1 hO.1 9 1 rfl rfl rfl hdg kk
set_option maxRecDepth 100000 in
theorem cs_9 (hx : p.tables.exec = Jvm.exec) (hb : c.code = cc) (hK : cK dC dI k s) (hO : cO dC dI b k A H0 σ H locs) {i x : Int32} (hi : vp_in i 16) (hdg : decode cc pc = .ok (.bastore, 1)) (kk : ∀ (H1 : Heap) (locs1 : List Loc), cO dC dI b k A H0 (sA σ 5 i (vp_nar .boolean x)) H1 locs1 → W p l e R s m args below meth c H1 locs1 cells slots QF (F0 m (pc + 1) ls rest)) : W p l e R s m args below meth c H locs cells slots QF (F0 m pc ls (.int x :: .int i :: .ref (b 9) :: rest)) :=
  va_zast hx hb hK.1 hO.1 hO.2.1 hO.2.2 9 1 rfl rfl hi hdg (fun H1 locs1 hP hD hS => kk H1 locs1 ⟨hP, hD, hS⟩)
set_option maxRecDepth 100000 in
theorem ca_11 (hx : p.tables.exec = Jvm.exec) (hb : c.code = cc) (hK : cK dC dI k s) (hO : cO dC dI b k A H0 σ H locs) {i : Int32} (hi : vp_in i 13) (hdg : decode cc pc = .ok (.iaload, 1)) (kk : W p l e R s m args below meth c H locs cells slots QF (F0 m (pc + 1) ls (.int (σ.2.1 6 i.toNatClampNeg) :: rest))) : W p l e R s m args below meth c H locs cells slots QF (F0 m pc ls (.int i :: .ref (b 11) :: rest)) :=
  va_iald hx hb hK.1 hO.1 11 0 rfl rfl hi hdg kk
set_option maxRecDepth 100000 in
theorem cl_11 (hx : p.tables.exec = Jvm.exec) (hb : c.code = cc) (hK : cK dC dI k s) (hO : cO dC dI b k A H0 σ H locs) (hdg : decode cc pc = .ok (.arraylength, 1)) (kk : W p l e R s m args below meth c H locs cells slots QF (F0 m (pc + 1) ls (.int (13 : Int32) :: rest))) : W p l e R s m args below meth c H locs cells slots QF (F0 m pc ls (.ref (b 11) :: rest)) :=
  va_alen hx hb hK.1 hO.1 11 0 rfl rfl rfl hdg kk
set_option maxRecDepth 100000 in
theorem cs_11 (hx : p.tables.exec = Jvm.exec) (hb : c.code = cc) (hK : cK dC dI k s) (hO : cO dC dI b k A H0 σ H locs) {i x : Int32} (hi : vp_in i 13) (hdg : decode cc pc = .ok (.iastore, 1)) (kk : ∀ (H1 : Heap) (locs1 : List Loc), cO dC dI b k A H0 (sA σ 6 i x) H1 locs1 → W p l e R s m args below meth c H1 locs1 cells slots QF (F0 m (pc + 1) ls rest)) : W p l e R s m args below meth c H locs cells slots QF (F0 m pc ls (.int x :: .int i :: .ref (b 11) :: rest)) :=
  va_iast hx hb hK.1 hO.1 hO.2.1 hO.2.2 11 0 rfl rfl hi hdg (fun H1 locs1 hP hD hS => kk H1 locs1 ⟨hP, hD, hS⟩)
set_option maxRecDepth 100000 in
theorem ca_12 (hx : p.tables.exec = Jvm.exec) (hb : c.code = cc) (hK : cK dC dI k s) (hO : cO dC dI b k A H0 σ H locs) {i : Int32} (hi : vp_in i 13) (hdg : decode cc pc = .ok (.iaload, 1)) (kk : W p l e R s m args below meth c H locs cells slots QF (F0 m (pc + 1) ls (.int (σ.2.1 7 i.toNatClampNeg) :: rest))) : W p l e R s m args below meth c H locs cells slots QF (F0 m pc ls (.int i :: .ref (b 12) :: rest)) :=
  va_iald hx hb hK.1 hO.1 12 0 rfl rfl hi hdg kk
set_option maxRecDepth 100000 in
theorem cl_12 (hx : p.tables.exec = Jvm.exec) (hb : c.code = cc) (hK : cK dC dI k s) (hO : cO dC dI b k A H0 σ H locs) (hdg : decode cc pc = .ok (.arraylength, 1)) (kk : W p l e R s m args below meth c H locs cells slots QF (F0 m (pc + 1) ls (.int (13 : Int32) :: rest))) : W p l e R s m args below meth c H locs cells slots QF (F0 m pc ls (.ref (b 12) :: rest)) :=
  va_alen hx hb hK.1 hO.1 12 0 rfl rfl rfl hdg kk
set_option maxRecDepth 100000 in
theorem cs_12 (hx : p.tables.exec = Jvm.exec) (hb : c.code = cc) (hK : cK dC dI k s) (hO : cO dC dI b k A H0 σ H locs) {i x : Int32} (hi : vp_in i 13) (hdg : decode cc pc = .ok (.iastore, 1)) (kk : ∀ (H1 : Heap) (locs1 : List Loc), cO dC dI b k A H0 (sA σ 7 i x) H1 locs1 → W p l e R s m args below meth c H1 locs1 cells slots QF (F0 m (pc + 1) ls rest)) : W p l e R s m args below meth c H locs cells slots QF (F0 m pc ls (.int x :: .int i :: .ref (b 12) :: rest)) :=
  va_iast hx hb hK.1 hO.1 hO.2.1 hO.2.2 12 0 rfl rfl hi hdg (fun H1 locs1 hP hD hS => kk H1 locs1 ⟨hP, hD, hS⟩)
set_option maxRecDepth 100000 in
theorem ca_13 (hx : p.tables.exec = Jvm.exec) (hb : c.code = cc) (hK : cK dC dI k s) (hO : cO dC dI b k A H0 σ H locs) {i : Int32} (hi : vp_in i 13) (hdg : decode cc pc = .ok (.iaload, 1)) (kk : W p l e R s m args below meth c H locs cells slots QF (F0 m (pc + 1) ls (.int (σ.2.1 8 i.toNatClampNeg) :: rest))) : W p l e R s m args below meth c H locs cells slots QF (F0 m pc ls (.int i :: .ref (b 13) :: rest)) :=
  va_iald hx hb hK.1 hO.1 13 0 rfl rfl hi hdg kk
set_option maxRecDepth 100000 in
theorem cl_13 (hx : p.tables.exec = Jvm.exec) (hb : c.code = cc) (hK : cK dC dI k s) (hO : cO dC dI b k A H0 σ H locs) (hdg : decode cc pc = .ok (.arraylength, 1)) (kk : W p l e R s m args below meth c H locs cells slots QF (F0 m (pc + 1) ls (.int (13 : Int32) :: rest))) : W p l e R s m args below meth c H locs cells slots QF (F0 m pc ls (.ref (b 13) :: rest)) :=
  va_alen hx hb hK.1 hO.1 13 0 rfl rfl rfl hdg kk
set_option maxRecDepth 100000 in
theorem cs_13 (hx : p.tables.exec = Jvm.exec) (hb : c.code = cc) (hK : cK dC dI k s) (hO : cO dC dI b k A H0 σ H locs) {i x : Int32} (hi : vp_in i 13) (hdg : decode cc pc = .ok (.iastore, 1)) (kk : ∀ (H1 : Heap) (locs1 : List Loc), cO dC dI b k A H0 (sA σ 8 i x) H1 locs1 → W p l e R s m args below meth c H1 locs1 cells slots QF (F0 m (pc + 1) ls rest)) : W p l e R s m args below meth c H locs cells slots QF (F0 m pc ls (.int x :: .int i :: .ref (b 13) :: rest)) :=
  va_iast hx hb hK.1 hO.1 hO.2.1 hO.2.2 13 0 rfl rfl hi hdg (fun H1 locs1 hP hD hS => kk H1 locs1 ⟨hP, hD, hS⟩)
set_option maxRecDepth 100000 in
theorem ciaload (hx : p.tables.exec = Jvm.exec) (hb : c.code = cc) (hK : cK dC dI k s) (hO : cO dC dI b k A H0 σ H locs) {i : Int32} {n : Nat} {f : Nat → Int32} (g : pA σ.2.2.2.2 o (k 0) n f) (hi : vp_in i n) (hdg : decode cc pc = .ok (.iaload, 1)) (kk : W p l e R s m args below meth c H locs cells slots QF (F0 m (pc + 1) ls (.int (f i.toNatClampNeg) :: rest))) : W p l e R s m args below meth c H locs cells slots QF (F0 m pc ls (.int i :: va_rf o :: rest)) := by
  obtain ⟨x, j, e9, hj⟩ := g
  subst e9
  exact va_iald hx hb hK.1 hO.1 _ 0 (cpl hj) rfl hi hdg kk
set_option maxRecDepth 100000 in
theorem clenA (hx : p.tables.exec = Jvm.exec) (hb : c.code = cc) (hK : cK dC dI k s) (hO : cO dC dI b k A H0 σ H locs) {n : Nat} {f : Nat → Int32} (g : pA σ.2.2.2.2 o (k 0) n f) (hdg : decode cc pc = .ok (.arraylength, 1)) (kk : W p l e R s m args below meth c H locs cells slots QF (F0 m (pc + 1) ls (.int (Int32.ofNat n) :: rest))) : W p l e R s m args below meth c H locs cells slots QF (F0 m pc ls (va_rf o :: rest)) := by
  obtain ⟨x, j, e9, hj⟩ := g
  subst e9
  exact va_alen hx hb hK.1 hO.1 _ 0 (cpl hj) rfl rfl hdg kk
set_option maxRecDepth 100000 in
theorem caaload (hx : p.tables.exec = Jvm.exec) (hb : c.code = cc) (hK : cK dC dI k s) (hO : cO dC dI b k A H0 σ H locs) {i : Int32} {n : Nat} {f : Nat → Option Nat} (g : pQ σ.2.2.2.2 o (k 3) n f) (hi : vp_in i n) (hdg : decode cc pc = .ok (.aaload, 1)) (kk : W p l e R s m args below meth c H locs cells slots QF (F0 m (pc + 1) ls (va_rf (f i.toNatClampNeg) :: rest))) : W p l e R s m args below meth c H locs cells slots QF (F0 m pc ls (.int i :: va_rf o :: rest)) := by
  obtain ⟨x, j, e9, hj⟩ := g
  subst e9
  exact va_aldq hx hb hK.1 hO.1 _ 3 (cpl hj) rfl hi hdg kk
set_option maxRecDepth 100000 in
theorem clenQ (hx : p.tables.exec = Jvm.exec) (hb : c.code = cc) (hK : cK dC dI k s) (hO : cO dC dI b k A H0 σ H locs) {n : Nat} {f : Nat → Option Nat} (g : pQ σ.2.2.2.2 o (k 3) n f) (hdg : decode cc pc = .ok (.arraylength, 1)) (kk : W p l e R s m args below meth c H locs cells slots QF (F0 m (pc + 1) ls (.int (Int32.ofNat n) :: rest))) : W p l e R s m args below meth c H locs cells slots QF (F0 m pc ls (va_rf o :: rest)) := by
  obtain ⟨x, j, e9, hj⟩ := g
  subst e9
  exact va_alen hx hb hK.1 hO.1 _ 3 (cpl hj) rfl rfl hdg kk
set_option maxRecDepth 100000 in
theorem ciastore (hx : p.tables.exec = Jvm.exec) (hb : c.code = cc) (hK : cK dC dI k s) (hO : cO dC dI b k A H0 σ H locs) {i x : Int32} {n y j : Nat} {f : Nat → Int32} (g : o = some y) (hj : σ.2.2.2.2[j]? = some (y, .inl (k 0, n, .inl f))) (hi : vp_in i n) (hdg : decode cc pc = .ok (.iastore, 1)) (kk : ∀ (H1 : Heap) (locs1 : List Loc), cO dC dI b k A H0 (sP σ j (y, .inl (k 0, n, .inl (upd f i.toNatClampNeg x)))) H1 locs1 → W p l e R s m args below meth c H1 locs1 cells slots QF (F0 m (pc + 1) ls rest)) : W p l e R s m args below meth c H locs cells slots QF (F0 m pc ls (.int x :: .int i :: va_rf o :: rest)) := by
  subst g
  exact va_iast hx hb hK.1 hO.1 hO.2.1 hO.2.2 _ 0 (cpl hj) rfl hi hdg (fun H1 locs1 hP hD hS => kk H1 locs1 ⟨by rw [← cps]; exact hP, by rw [← cps]; exact hD, hS⟩)
set_option maxRecDepth 100000 in
theorem caastore (hx : p.tables.exec = Jvm.exec) (hb : c.code = cc) (hK : cK dC dI k s) (hO : cO dC dI b k A H0 σ H locs) {i : Int32} {o2 : Option Nat} {n y j : Nat} {f : Nat → Option Nat} (g : o = some y) (hj : σ.2.2.2.2[j]? = some (y, .inl (k 3, n, .inr (.inr (.inr (.inr f)))))) (hi : vp_in i n) (z : pO σ.2.2.2.2 o2 5) (hdg : decode cc pc = .ok (.aastore, 1)) (kk : ∀ (H1 : Heap) (locs1 : List Loc), cO dC dI b k A H0 (sP σ j (y, .inl (k 3, n, .inr (.inr (.inr (.inr (va_up f i.toNatClampNeg o2))))))) H1 locs1 → W p l e R s m args below meth c H1 locs1 cells slots QF (F0 m (pc + 1) ls rest)) : W p l e R s m args below meth c H locs cells slots QF (F0 m pc ls (va_rf o2 :: .int i :: va_rf o :: rest)) := by
  obtain ⟨x, e9, q, fs, hq⟩ := z
  subst e9
  subst g
  exact va_astq hx hb hK.1 hO.1 hO.2.1 hO.2.2 _ 3 _ 5 (cpl hj) rfl (cpl hq) rfl hi hdg (fun H1 locs1 hP hD hS => kk H1 locs1 ⟨by rw [← cps]; exact hP, by rw [← cps]; exact hD, hS⟩)
set_option maxRecDepth 100000 in
theorem cnewa (X : CallFix p m c cc nL s args (cw :: wG) own) (hK : cK dC dI k s) (hO : cO dC dI b k A H0 σ H locs) (hA : ∀ q, H0.size ≤ q → A q) {n : Int32} (hn : ¬ n < 0) (hb9 : n.toNatClampNeg ≤ 1000) (hc1 : cells + 1 ≤ R.cells) (hc2 : slots + n.toNatClampNeg ≤ R.slots) (hdg : decode cc pc = .ok (.newarray .int, 2)) (kk : ∀ (q : Nat) (H1 : Heap), cO dC dI b k A H0 (sN σ (q, .inl (k 0, n.toNatClampNeg, .inl (fun _ => 0)))) H1 locs → W p l e R s m args below meth c H1 locs (cells + 1) (slots + n.toNatClampNeg) QF (F0 m (pc + 2) ls (.ref q :: rest))) : W p l e R s m args below meth c H locs cells slots QF (F0 m pc ls (.int n :: rest)) :=
  va_newa (atype := .int) (ty := .int) (a0 := (n.toNatClampNeg, .inl (fun _ => 0))) X.1 X.2.1 (X.2.2.2.2 _ (List.mem_cons_of_mem _ aInt)) rfl hK.1 hO.1 hO.2.1 hO.2.2 hA (fun cA => rfl) hn rfl (show n.toNatClampNeg * 4 ≤ 536870912 by omega) hc1 hc2 hdg (fun q cA H1 hK1 hP hD hS => by
    have e9 : cA = k 0 := ra_i (hK1.2 5 (cA, .int) rfl).2 (hK1.2 0 (k 0, .int) rfl).2
    subst e9
    exact kk q H1 ⟨by rw [← cpn]; exact hP, by rw [← cpn]; exact hD, hS⟩)
set_option maxRecDepth 100000 in
theorem cnewq (X : CallFix p m c cc nL s args (cw :: wG) own) (hm : Cond.classLink own idx RX5 ∈ wG) (hK : cK dC dI k s) (hO : cO dC dI b k A H0 σ H locs) (hA : ∀ q, H0.size ≤ q → A q) {n : Int32} (hn : ¬ n < 0) (hb9 : n.toNatClampNeg ≤ 1000) (hc1 : cells + 1 ≤ R.cells) (hc2 : slots + n.toNatClampNeg ≤ R.slots) (hdg : decode cc pc = .ok (.anewarray idx, 3)) (kk : ∀ (q : Nat) (H1 : Heap), cO dC dI b k A H0 (sN σ (q, .inl (k 3, n.toNatClampNeg, .inr (.inr (.inr (.inr (fun _ => none))))))) H1 locs → W p l e R s m args below meth c H1 locs (cells + 1) (slots + n.toNatClampNeg) QF (F0 m (pc + 3) ls (.ref q :: rest))) : W p l e R s m args below meth c H locs cells slots QF (F0 m pc ls (.int n :: rest)) :=
  va_newq (C := "ClassFileIndex$Value") X.1 X.2.1 X.2.2.2.1 (X.2.2.2.2 _ (List.mem_cons_of_mem _ hm)) hK.2 hK.1 hO.1 hO.2.1 hO.2.2 hA hn rfl (by omega) hc1 hc2 hdg (fun q cA H1 hK1 hP hD hS => by
    have e9 : cA = k 3 := ra_o (hK1.2 5 (cA, .object "ClassFileIndex$Value") rfl).2 (hK1.2 3 (k 3, .object "ClassFileIndex$Value") rfl).2
    subst e9
    exact kk q H1 ⟨by rw [← cpn]; exact hP, by rw [← cpn]; exact hD, hS⟩)
set_option maxRecDepth 100000 in
theorem ccopy {o0 : Option Nat} (X : CallFix p m c cc nL s args (cw :: wG) own) (hm : Cond.methodLink own idx arraycopyName ∈ wG) (hK : cK dC dI k s) (hO : cO dC dI b k A H0 σ H locs) {sp dp n : Int32} {x0 j0 n0 x1 j1 n1 : Nat} {f g : Nat → Int32} (e0 : o0 = some x0) (hj0 : σ.2.2.2.2[j0]? = some (x0, .inl (k 0, n0, .inl f))) (e1 : o = some x1) (hj1 : σ.2.2.2.2[j1]? = some (x1, .inl (k 0, n1, .inl g))) (h1 : ¬ sp < 0) (h2 : ¬ dp < 0) (h3 : ¬ n < 0) (h4 : sp.toNatClampNeg + n.toNatClampNeg ≤ n0) (h5 : dp.toNatClampNeg + n.toNatClampNeg ≤ n1) (hls : ls.size = nL) (hfr : 1 ≤ R.frames) (hlo : (rest.map fun v => v.category).sum + (nativeFrameWords "java/lang/System" "arraycopy" 5 + 11) ≤ R.locals) (hdg : decode cc pc = .ok (.invokestatic idx, 3)) (kk : ∀ (H1 : Heap) (locs1 : List Loc), cO dC dI b k A H0 (sP σ j1 (x1, .inl (k 0, n1, .inl (va_cpy f g sp.toNatClampNeg dp.toNatClampNeg n.toNatClampNeg)))) H1 locs1 → W p l e R s m args below meth c H1 locs1 cells slots QF (F0 m (pc + 3) ls rest)) : W p l e R s m args below meth c H locs cells slots QF (F0 m pc ls (.int n :: .int dp :: va_rf o :: .int sp :: va_rf o0 :: rest)) := by
  subst e0
  subst e1
  exact va_copyi X.1 X.2.1 (by rw [X.2.2.1, hls]) X.2.2.2.1 (X.2.2.2.2 _ (List.mem_cons_of_mem _ hm)) (X.2.2.2.2 _ (List.mem_cons_of_mem _ cpNat)) (X.2.2.2.2 _ (List.mem_cons_of_mem _ cpStat)) (X.2.2.2.2 _ (List.mem_cons_of_mem _ cpIni)) hK.1 hO.1 hO.2.1 hO.2.2 _ _ 0 0 (cpl hj0) (cpl hj1) rfl rfl rfl h1 h2 h3 h4 h5 (fun _ _ => rfl) hfr hlo hdg (fun H1 locs1 hP hD hS => kk H1 locs1 ⟨by rw [← cps]; exact hP, by rw [← cps]; exact hD, hS⟩)
set_option maxRecDepth 100000 in
theorem c_calli {As st0 : List Value} {h mc ms : Nat} {C : String} {y : MethodName} {ws : List Cond} {rm : Room} {index n maxL : Nat} {bytes : ByteArray} {ret : Option FieldType} {Q' : Int32 → cS → Prop} (X : CallFix p m c cc nL s args (cw :: wG) own)
    (hM : Met l y ws rm (cPc dC dI b k H.size σ (.ref h :: As)) (va_Qi Q' (cAt dC dI (va_A (cCells b k σ) H.size) b k) (va_A (cCells b k σ) H.size)) mc ms (va_A (cCells b k σ) H.size))
    (cw9 : CallW R s args own C index y bytes maxL ret ws rm mc ms n) (hrec : ∃ cell : Cell, H[h]? = some cell ∧ cell.vm.isStatics = false ∧ s.vm.findClass C = some cell.cls) (hK : cK dC dI k s) (hA : ∀ q, s.heap.size ≤ q → A q) (hO : cO dC dI b k A s.heap σ H locs)
    (hn : As.length = n) (hls : ls.size = nL) (hst : st0 = As.reverse ++ .ref h :: rest) (hcat : (rest.map fun v => v.category).sum ≤ 8) (hdg : decode cc pc = .ok (.invokevirtual index, 3)) (hf1 : cells + mc ≤ R.cells) (hf2 : slots + ms ≤ R.slots)
    (kk : ∀ (r : Int32) (σ' : cS) (H1 : Heap) (locs1 : List Loc), cO dC dI b k A s.heap σ' H1 locs1 → Q' r σ' → W p l e R s m args below meth c H1 locs1 (cells + mc) (slots + ms) QF (F0 m (pc + 3) ls (.int r :: rest))) : W p l e R s m args below meth c H locs cells slots QF (F0 m pc ls st0) := by
  skip
  have hFc := va_freeAll hO.2.1 hO.2.2 hA
  refine va_calli (va_runV (rest := rest) X hM cw9 ⟨cPc_blind, hrec, cPc_pre hK hO⟩ rfl hn hls hst (lv_room hcat) hdg ⟨hf1, hf2⟩) hO.2.2 (fun q _ h => hFc q h) hFc (fun r σ' t H1 locs1 ht hvm hq hB hz1 hk1 hS => ?_)
  obtain ⟨hP1, hK1, hD1⟩ := hB
  rw [ht] at hP1
  exact kk r σ' H1 locs1 ⟨hP1, hD1.weaken (fun _ q _ hq => hFc q.1 hq), hS⟩ hq
set_option maxRecDepth 100000 in
theorem c_calliO {As st0 : List Value} {h mc ms : Nat} {C : String} {y : MethodName} {ws : List Cond} {rm : Room} {index n maxL : Nat} {bytes : ByteArray} {ret : Option FieldType} {Q' : Int32 → cS → Prop} (X : CallFix p m c cc nL s args (cw :: wG) own)
    (hM : Met l y ws rm (cPc dC dI b k H.size σ (.ref h :: As)) (va_Qi Q' (cAt dC dI (va_A (cCells b k σ) H.size) b k) (va_A (cCells b k σ) H.size)) mc ms (va_A (cCells b k σ) H.size))
    (cw9 : CallW R s args own C index y bytes maxL ret ws rm mc ms n) (hrec : ∃ cell : Cell, H[h]? = some cell ∧ cell.vm.isStatics = false ∧ s.vm.findClass C = some cell.cls) (e9 : o = some h) (hK : cK dC dI k s) (hA : ∀ q, s.heap.size ≤ q → A q) (hO : cO dC dI b k A s.heap σ H locs)
    (hn : As.length = n) (hls : ls.size = nL) (hst : st0 = As.reverse ++ va_rf o :: rest) (hcat : (rest.map fun v => v.category).sum ≤ 8) (hdg : decode cc pc = .ok (.invokevirtual index, 3)) (hf1 : cells + mc ≤ R.cells) (hf2 : slots + ms ≤ R.slots)
    (kk : ∀ (r : Int32) (σ' : cS) (H1 : Heap) (locs1 : List Loc), cO dC dI b k A s.heap σ' H1 locs1 → Q' r σ' → W p l e R s m args below meth c H1 locs1 (cells + mc) (slots + ms) QF (F0 m (pc + 3) ls (.int r :: rest))) : W p l e R s m args below meth c H locs cells slots QF (F0 m pc ls st0) := by
  subst e9
  have hFc := va_freeAll hO.2.1 hO.2.2 hA
  refine va_calli (va_runV (rest := rest) X hM cw9 ⟨cPc_blind, hrec, cPc_pre hK hO⟩ rfl hn hls hst (lv_room hcat) hdg ⟨hf1, hf2⟩) hO.2.2 (fun q _ h => hFc q h) hFc (fun r σ' t H1 locs1 ht hvm hq hB hz1 hk1 hS => ?_)
  obtain ⟨hP1, hK1, hD1⟩ := hB
  rw [ht] at hP1
  exact kk r σ' H1 locs1 ⟨hP1, hD1.weaken (fun _ q _ hq => hFc q.1 hq), hS⟩ hq
set_option maxRecDepth 100000 in
theorem c_calll {As st0 : List Value} {h mc ms : Nat} {C : String} {y : MethodName} {ws : List Cond} {rm : Room} {index n maxL : Nat} {bytes : ByteArray} {ret : Option FieldType} {Q' : Int64 → cS → Prop} (X : CallFix p m c cc nL s args (cw :: wG) own)
    (hM : Met l y ws rm (cPc dC dI b k H.size σ (.ref h :: As)) (va_Ql Q' (cAt dC dI (va_A (cCells b k σ) H.size) b k) (va_A (cCells b k σ) H.size)) mc ms (va_A (cCells b k σ) H.size))
    (cw9 : CallW R s args own C index y bytes maxL ret ws rm mc ms n) (hrec : ∃ cell : Cell, H[h]? = some cell ∧ cell.vm.isStatics = false ∧ s.vm.findClass C = some cell.cls) (hK : cK dC dI k s) (hA : ∀ q, s.heap.size ≤ q → A q) (hO : cO dC dI b k A s.heap σ H locs)
    (hn : As.length = n) (hls : ls.size = nL) (hst : st0 = As.reverse ++ .ref h :: rest) (hcat : (rest.map fun v => v.category).sum ≤ 8) (hdg : decode cc pc = .ok (.invokevirtual index, 3)) (hf1 : cells + mc ≤ R.cells) (hf2 : slots + ms ≤ R.slots)
    (kk : ∀ (r : Int64) (σ' : cS) (H1 : Heap) (locs1 : List Loc), cO dC dI b k A s.heap σ' H1 locs1 → Q' r σ' → W p l e R s m args below meth c H1 locs1 (cells + mc) (slots + ms) QF (F0 m (pc + 3) ls (.long r :: rest))) : W p l e R s m args below meth c H locs cells slots QF (F0 m pc ls st0) := by
  skip
  have hFc := va_freeAll hO.2.1 hO.2.2 hA
  refine va_calll (va_runV (rest := rest) X hM cw9 ⟨cPc_blind, hrec, cPc_pre hK hO⟩ rfl hn hls hst (lv_room hcat) hdg ⟨hf1, hf2⟩) hO.2.2 (fun q _ h => hFc q h) hFc (fun r σ' t H1 locs1 ht hvm hq hB hz1 hk1 hS => ?_)
  obtain ⟨hP1, hK1, hD1⟩ := hB
  rw [ht] at hP1
  exact kk r σ' H1 locs1 ⟨hP1, hD1.weaken (fun _ q _ hq => hFc q.1 hq), hS⟩ hq
set_option maxRecDepth 100000 in
theorem c_calllO {As st0 : List Value} {h mc ms : Nat} {C : String} {y : MethodName} {ws : List Cond} {rm : Room} {index n maxL : Nat} {bytes : ByteArray} {ret : Option FieldType} {Q' : Int64 → cS → Prop} (X : CallFix p m c cc nL s args (cw :: wG) own)
    (hM : Met l y ws rm (cPc dC dI b k H.size σ (.ref h :: As)) (va_Ql Q' (cAt dC dI (va_A (cCells b k σ) H.size) b k) (va_A (cCells b k σ) H.size)) mc ms (va_A (cCells b k σ) H.size))
    (cw9 : CallW R s args own C index y bytes maxL ret ws rm mc ms n) (hrec : ∃ cell : Cell, H[h]? = some cell ∧ cell.vm.isStatics = false ∧ s.vm.findClass C = some cell.cls) (e9 : o = some h) (hK : cK dC dI k s) (hA : ∀ q, s.heap.size ≤ q → A q) (hO : cO dC dI b k A s.heap σ H locs)
    (hn : As.length = n) (hls : ls.size = nL) (hst : st0 = As.reverse ++ va_rf o :: rest) (hcat : (rest.map fun v => v.category).sum ≤ 8) (hdg : decode cc pc = .ok (.invokevirtual index, 3)) (hf1 : cells + mc ≤ R.cells) (hf2 : slots + ms ≤ R.slots)
    (kk : ∀ (r : Int64) (σ' : cS) (H1 : Heap) (locs1 : List Loc), cO dC dI b k A s.heap σ' H1 locs1 → Q' r σ' → W p l e R s m args below meth c H1 locs1 (cells + mc) (slots + ms) QF (F0 m (pc + 3) ls (.long r :: rest))) : W p l e R s m args below meth c H locs cells slots QF (F0 m pc ls st0) := by
  subst e9
  have hFc := va_freeAll hO.2.1 hO.2.2 hA
  refine va_calll (va_runV (rest := rest) X hM cw9 ⟨cPc_blind, hrec, cPc_pre hK hO⟩ rfl hn hls hst (lv_room hcat) hdg ⟨hf1, hf2⟩) hO.2.2 (fun q _ h => hFc q h) hFc (fun r σ' t H1 locs1 ht hvm hq hB hz1 hk1 hS => ?_)
  obtain ⟨hP1, hK1, hD1⟩ := hB
  rw [ht] at hP1
  exact kk r σ' H1 locs1 ⟨hP1, hD1.weaken (fun _ q _ hq => hFc q.1 hq), hS⟩ hq
set_option maxRecDepth 100000 in
theorem c_callq {As st0 : List Value} {h mc ms : Nat} {C : String} {y : MethodName} {ws : List Cond} {rm : Room} {index n maxL : Nat} {bytes : ByteArray} {ret : Option FieldType} {Q' : Option Nat → cS → Prop} (X : CallFix p m c cc nL s args (cw :: wG) own)
    (hM : Met l y ws rm (cPc dC dI b k H.size σ (.ref h :: As)) (va_Qq Q' (cAt dC dI (va_A (cCells b k σ) H.size) b k) (va_A (cCells b k σ) H.size)) mc ms (va_A (cCells b k σ) H.size))
    (cw9 : CallW R s args own C index y bytes maxL ret ws rm mc ms n) (hrec : ∃ cell : Cell, H[h]? = some cell ∧ cell.vm.isStatics = false ∧ s.vm.findClass C = some cell.cls) (hK : cK dC dI k s) (hA : ∀ q, s.heap.size ≤ q → A q) (hO : cO dC dI b k A s.heap σ H locs)
    (hn : As.length = n) (hls : ls.size = nL) (hst : st0 = As.reverse ++ .ref h :: rest) (hcat : (rest.map fun v => v.category).sum ≤ 8) (hdg : decode cc pc = .ok (.invokevirtual index, 3)) (hf1 : cells + mc ≤ R.cells) (hf2 : slots + ms ≤ R.slots)
    (kk : ∀ (r : Option Nat) (σ' : cS) (H1 : Heap) (locs1 : List Loc), cO dC dI b k A s.heap σ' H1 locs1 → Q' r σ' → W p l e R s m args below meth c H1 locs1 (cells + mc) (slots + ms) QF (F0 m (pc + 3) ls (va_rf r :: rest))) : W p l e R s m args below meth c H locs cells slots QF (F0 m pc ls st0) := by
  skip
  have hFc := va_freeAll hO.2.1 hO.2.2 hA
  refine va_callq (va_runV (rest := rest) X hM cw9 ⟨cPc_blind, hrec, cPc_pre hK hO⟩ rfl hn hls hst (lv_room hcat) hdg ⟨hf1, hf2⟩) hO.2.2 (fun q _ h => hFc q h) hFc (fun r σ' t H1 locs1 ht hvm hq hB hz1 hk1 hS => ?_)
  obtain ⟨hP1, hK1, hD1⟩ := hB
  rw [ht] at hP1
  exact kk r σ' H1 locs1 ⟨hP1, hD1.weaken (fun _ q _ hq => hFc q.1 hq), hS⟩ hq
set_option maxRecDepth 100000 in
theorem c_callqO {As st0 : List Value} {h mc ms : Nat} {C : String} {y : MethodName} {ws : List Cond} {rm : Room} {index n maxL : Nat} {bytes : ByteArray} {ret : Option FieldType} {Q' : Option Nat → cS → Prop} (X : CallFix p m c cc nL s args (cw :: wG) own)
    (hM : Met l y ws rm (cPc dC dI b k H.size σ (.ref h :: As)) (va_Qq Q' (cAt dC dI (va_A (cCells b k σ) H.size) b k) (va_A (cCells b k σ) H.size)) mc ms (va_A (cCells b k σ) H.size))
    (cw9 : CallW R s args own C index y bytes maxL ret ws rm mc ms n) (hrec : ∃ cell : Cell, H[h]? = some cell ∧ cell.vm.isStatics = false ∧ s.vm.findClass C = some cell.cls) (e9 : o = some h) (hK : cK dC dI k s) (hA : ∀ q, s.heap.size ≤ q → A q) (hO : cO dC dI b k A s.heap σ H locs)
    (hn : As.length = n) (hls : ls.size = nL) (hst : st0 = As.reverse ++ va_rf o :: rest) (hcat : (rest.map fun v => v.category).sum ≤ 8) (hdg : decode cc pc = .ok (.invokevirtual index, 3)) (hf1 : cells + mc ≤ R.cells) (hf2 : slots + ms ≤ R.slots)
    (kk : ∀ (r : Option Nat) (σ' : cS) (H1 : Heap) (locs1 : List Loc), cO dC dI b k A s.heap σ' H1 locs1 → Q' r σ' → W p l e R s m args below meth c H1 locs1 (cells + mc) (slots + ms) QF (F0 m (pc + 3) ls (va_rf r :: rest))) : W p l e R s m args below meth c H locs cells slots QF (F0 m pc ls st0) := by
  subst e9
  have hFc := va_freeAll hO.2.1 hO.2.2 hA
  refine va_callq (va_runV (rest := rest) X hM cw9 ⟨cPc_blind, hrec, cPc_pre hK hO⟩ rfl hn hls hst (lv_room hcat) hdg ⟨hf1, hf2⟩) hO.2.2 (fun q _ h => hFc q h) hFc (fun r σ' t H1 locs1 ht hvm hq hB hz1 hk1 hS => ?_)
  obtain ⟨hP1, hK1, hD1⟩ := hB
  rw [ht] at hP1
  exact kk r σ' H1 locs1 ⟨hP1, hD1.weaken (fun _ q _ hq => hFc q.1 hq), hS⟩ hq
set_option maxRecDepth 100000 in
theorem c_callv {As st0 : List Value} {h mc ms : Nat} {C : String} {y : MethodName} {ws : List Cond} {rm : Room} {index n maxL : Nat} {bytes : ByteArray} {ret : Option FieldType} {Q' : cS → Prop} (X : CallFix p m c cc nL s args (cw :: wG) own)
    (hM : Met l y ws rm (cPc dC dI b k H.size σ (.ref h :: As)) (va_Qv Q' (cAt dC dI (va_A (cCells b k σ) H.size) b k) (va_A (cCells b k σ) H.size)) mc ms (va_A (cCells b k σ) H.size))
    (cw9 : CallW R s args own C index y bytes maxL ret ws rm mc ms n) (hrec : ∃ cell : Cell, H[h]? = some cell ∧ cell.vm.isStatics = false ∧ s.vm.findClass C = some cell.cls) (hK : cK dC dI k s) (hA : ∀ q, s.heap.size ≤ q → A q) (hO : cO dC dI b k A s.heap σ H locs)
    (hn : As.length = n) (hls : ls.size = nL) (hst : st0 = As.reverse ++ .ref h :: rest) (hcat : (rest.map fun v => v.category).sum ≤ 8) (hdg : decode cc pc = .ok (.invokevirtual index, 3)) (hf1 : cells + mc ≤ R.cells) (hf2 : slots + ms ≤ R.slots)
    (kk : ∀ (σ' : cS) (H1 : Heap) (locs1 : List Loc), cO dC dI b k A s.heap σ' H1 locs1 → Q' σ' → W p l e R s m args below meth c H1 locs1 (cells + mc) (slots + ms) QF (F0 m (pc + 3) ls (rest))) : W p l e R s m args below meth c H locs cells slots QF (F0 m pc ls st0) := by
  skip
  have hFc := va_freeAll hO.2.1 hO.2.2 hA
  refine va_callv (va_runV (rest := rest) X hM cw9 ⟨cPc_blind, hrec, cPc_pre hK hO⟩ rfl hn hls hst (lv_room hcat) hdg ⟨hf1, hf2⟩) hO.2.2 (fun q _ h => hFc q h) hFc (fun σ' t H1 locs1 ht hvm hq hB hz1 hk1 hS => ?_)
  obtain ⟨hP1, hK1, hD1⟩ := hB
  rw [ht] at hP1
  exact kk σ' H1 locs1 ⟨hP1, hD1.weaken (fun _ q _ hq => hFc q.1 hq), hS⟩ hq
set_option maxRecDepth 100000 in
theorem c_callvO {As st0 : List Value} {h mc ms : Nat} {C : String} {y : MethodName} {ws : List Cond} {rm : Room} {index n maxL : Nat} {bytes : ByteArray} {ret : Option FieldType} {Q' : cS → Prop} (X : CallFix p m c cc nL s args (cw :: wG) own)
    (hM : Met l y ws rm (cPc dC dI b k H.size σ (.ref h :: As)) (va_Qv Q' (cAt dC dI (va_A (cCells b k σ) H.size) b k) (va_A (cCells b k σ) H.size)) mc ms (va_A (cCells b k σ) H.size))
    (cw9 : CallW R s args own C index y bytes maxL ret ws rm mc ms n) (hrec : ∃ cell : Cell, H[h]? = some cell ∧ cell.vm.isStatics = false ∧ s.vm.findClass C = some cell.cls) (e9 : o = some h) (hK : cK dC dI k s) (hA : ∀ q, s.heap.size ≤ q → A q) (hO : cO dC dI b k A s.heap σ H locs)
    (hn : As.length = n) (hls : ls.size = nL) (hst : st0 = As.reverse ++ va_rf o :: rest) (hcat : (rest.map fun v => v.category).sum ≤ 8) (hdg : decode cc pc = .ok (.invokevirtual index, 3)) (hf1 : cells + mc ≤ R.cells) (hf2 : slots + ms ≤ R.slots)
    (kk : ∀ (σ' : cS) (H1 : Heap) (locs1 : List Loc), cO dC dI b k A s.heap σ' H1 locs1 → Q' σ' → W p l e R s m args below meth c H1 locs1 (cells + mc) (slots + ms) QF (F0 m (pc + 3) ls (rest))) : W p l e R s m args below meth c H locs cells slots QF (F0 m pc ls st0) := by
  subst e9
  have hFc := va_freeAll hO.2.1 hO.2.2 hA
  refine va_callv (va_runV (rest := rest) X hM cw9 ⟨cPc_blind, hrec, cPc_pre hK hO⟩ rfl hn hls hst (lv_room hcat) hdg ⟨hf1, hf2⟩) hO.2.2 (fun q _ h => hFc q h) hFc (fun σ' t H1 locs1 ht hvm hq hB hz1 hk1 hS => ?_)
  obtain ⟨hP1, hK1, hD1⟩ := hB
  rw [ht] at hP1
  exact kk σ' H1 locs1 ⟨hP1, hD1.weaken (fun _ q _ hq => hFc q.1 hq), hS⟩ hq
set_option maxRecDepth 100000 in
theorem c_init {As st0 : List Value} {h mc ms : Nat} {y : MethodName} {ws : List Cond} {rm : Room} {index n maxL : Nat} {bytes : ByteArray} {Q' : cS → Prop} (X : CallFix p m c cc nL s args (cw :: wG) own)
    (hM : Met l y ws rm (cPc dC dI b k H.size σ (.ref h :: As)) (va_Qv Q' (cAt dC dI (va_A (cCells b k σ) H.size) b k) (va_A (cCells b k σ) H.size)) mc ms (va_A (cCells b k σ) H.size))
    (cw9 : CallB R s args own index y bytes maxL none ws rm mc ms n ∧ y.name = "<init>" ∧ (Cond.instanceMethod y).before args s = true) (hK : cK dC dI k s) (hA : ∀ q, s.heap.size ≤ q → A q) (hO : cO dC dI b k A s.heap σ H locs)
    (hn : As.length = n) (hls : ls.size = nL) (hst : st0 = As.reverse ++ .ref h :: rest) (hcat : (rest.map fun v => v.category).sum ≤ 8) (hdg : decode cc pc = .ok (.invokespecial index, 3)) (hf1 : cells + mc ≤ R.cells) (hf2 : slots + ms ≤ R.slots)
    (kk : ∀ (σ' : cS) (H1 : Heap) (locs1 : List Loc), cO dC dI b k A s.heap σ' H1 locs1 → Q' σ' → W p l e R s m args below meth c H1 locs1 (cells + mc) (slots + ms) QF (F0 m (pc + 3) ls rest)) : W p l e R s m args below meth c H locs cells slots QF (F0 m pc ls st0) := by
  have hFc := va_freeAll hO.2.1 hO.2.2 hA
  refine va_callv (va_runI (rest := rest) X hM cw9 ⟨cPc_blind, cPc_pre hK hO⟩ rfl hn hls hst (lv_room hcat) hdg ⟨hf1, hf2⟩) hO.2.2 (fun q _ h => hFc q h) hFc (fun σ' t H1 locs1 ht hvm hq hB hz1 hk1 hS => ?_)
  obtain ⟨hP1, hK1, hD1⟩ := hB
  rw [ht] at hP1
  exact kk σ' H1 locs1 ⟨hP1, hD1.weaken (fun _ q _ hq => hFc q.1 hq), hS⟩ hq
end
