/-! ===== the constructors ===== -/
theorem w_oi : Cond.instanceMethod objectInit ∈ gw := tb 78 (by decide +kernel)
theorem w_oc : Cond.code objectInit ⟨#[0xb1]⟩ 1 none ∈ gw := tb 79 (by decide +kernel)
theorem w_ar : Cond.arrayClass .int ∈ gw := tb 119 (by decide +kernel)
theorem wi_X0 : Cond.instanceMethod yX0_init ∈ gw := tb 209 (by decide +kernel)
theorem wn_X0 : Cond.initialized RX0 ∈ gw := tb 65 (by decide +kernel)
theorem wm_X0 : Cond.instantiable RX0 2 ∈ gw := tb 207 (by decide +kernel)
theorem wi_X1 : Cond.instanceMethod yX1_init ∈ gw := tb 147 (by decide +kernel)
theorem wn_X1 : Cond.initialized RX1 ∈ gw := tb 64 (by decide +kernel)
theorem wm_X1 : Cond.instantiable RX1 15 ∈ gw := tb 145 (by decide +kernel)
theorem wi_X2 : Cond.instanceMethod yX2_init ∈ gw := tb 225 (by decide +kernel)
theorem wn_X2 : Cond.initialized RX2 ∈ gw := tb 66 (by decide +kernel)
theorem wm_X2 : Cond.instantiable RX2 3 ∈ gw := tb 223 (by decide +kernel)
theorem wi_X3 : Cond.instanceMethod yX3_init ∈ gw := tb 83 (by decide +kernel)
theorem wn_X3 : Cond.initialized RX3 ∈ gw := tb 62 (by decide +kernel)
theorem wm_X3 : Cond.instantiable RX3 7 ∈ gw := tb 81 (by decide +kernel)
theorem wi_X4 : Cond.instanceMethod yX4_init ∈ gw := tb 123 (by decide +kernel)
theorem wn_X4 : Cond.initialized RX4 ∈ gw := tb 63 (by decide +kernel)
theorem wm_X4 : Cond.instantiable RX4 4 ∈ gw := tb 121 (by decide +kernel)
theorem wi_X5 : Cond.instanceMethod yX5_init ∈ gw := tb 75 (by decide +kernel)
theorem wn_X5 : Cond.initialized RX5 ∈ gw := tb 61 (by decide +kernel)
theorem wm_X5 : Cond.instantiable RX5 11 ∈ gw := tb 73 (by decide +kernel)
theorem wi_X6 : Cond.instanceMethod yX6_init ∈ gw := tb 633 (by decide +kernel)
theorem wn_X6 : Cond.initialized RX6 ∈ gw := tb 67 (by decide +kernel)
theorem wm_X6 : Cond.instantiable RX6 33 ∈ gw := tb 631 (by decide +kernel)
theorem wk_X0 : Cond.code yX0_init cX0_init 1 none ∈ gw := tb 210 (by decide +kernel)
theorem wk_X1 : Cond.code yX1_init cX1_init 1 none ∈ gw := tb 148 (by decide +kernel)
theorem wk_X2 : Cond.code yX2_init cX2_init 1 none ∈ gw := tb 226 (by decide +kernel)
theorem wk_X3 : Cond.code yX3_init cX3_init 1 none ∈ gw := tb 84 (by decide +kernel)
theorem wk_X4 : Cond.code yX4_init cX4_init 1 none ∈ gw := tb 124 (by decide +kernel)
theorem wk_X5 : Cond.code yX5_init cX5_init 2 none ∈ gw := tb 76 (by decide +kernel)
theorem wk_X6 : Cond.code yX6_init cX6_init 2 none ∈ gw := tb 634 (by decide +kernel)
theorem wc_X5_7 : Cond.classLink RX5 7 RX3 ∈ gw := tb 80 (by decide +kernel)
theorem wc_X5_16 : Cond.classLink RX5 16 RX4 ∈ gw := tb 120 (by decide +kernel)
theorem wc_X5_26 : Cond.classLink RX5 26 RX1 ∈ gw := tb 144 (by decide +kernel)
theorem wc_X5_36 : Cond.classLink RX5 36 RX0 ∈ gw := tb 206 (by decide +kernel)
theorem wc_X5_43 : Cond.classLink RX5 43 RX2 ∈ gw := tb 221 (by decide +kernel)
theorem wc_L_7 : Cond.classLink R_law 7 RX5 ∈ gw := tb 72 (by decide +kernel)
theorem wc_L_10 : Cond.classLink R_law 10 RX6 ∈ gw := tb 630 (by decide +kernel)
theorem FG.link {own : String} {ix ci i : Nat} (h : FG own ix ci i) {C : String} {T : u_T} {N : Nat} (hc : cls7[ci]? = some (C, T, N)) : Cond.fieldLink own ix (T i).1 (T i).2.1 (T i).2.2.1 ∈ gw := by
  obtain ⟨C0, T0, N0, h1, -, -, h2⟩ := h
  have e := Option.some.inj (h1.symm.trans hc)
  have e1 : T0 = T := congrArg (fun z => z.2.1) e
  rw [← e1]
  exact h2
theorem va_K_one {D : va_G} {cl : List vw_C} {tys : List (ClassId × FieldType)} {U : State} (h : va_K D cl tys U) (i j : Nat) {a b : ClassId} (hi : tys[i]? = some (a, .int)) (hj : tys[j]? = some (b, .int)) : b = a := by
  have h1 : U.vm.findClass ("[" ++ FieldType.int.toString) = some a := (h.2 i _ hi).2
  have h2 : U.vm.findClass ("[" ++ FieldType.int.toString) = some b := (h.2 j _ hj).2
  exact Option.some.inj (h2.symm.trans h1)
theorem gd_ctor {y : MethodName} {cc : ByteArray} {n : Nat} {r : Option FieldType} (h : Cond.code y cc n r ∈ gw) : GoodIn gw (.code y cc n r :: gw) := fun w hw => by
  refine gw_good w ?_
  rcases List.mem_cons.mp hw with rfl | hw
  · exact h
  · exact hw
/-- the links among nest mates, and the rows' array -/
def NX (U : State) : Prop := va_Nw (.methodLinkNest RX5 9 yX3_init "PartingMap") U ∧ va_Nw (.methodLinkNest RX5 18 yX4_init "PartingMap") U ∧ va_Nw (.methodLinkNest RX5 28 yX1_init "PartingMap") U ∧ va_Nw (.methodLinkNest RX5 38 yX0_init "PartingMap") U ∧ va_Nw (.methodLinkNest RX5 56 yX2_init "PartingMap") U ∧ va_AO RX2 U
theorem NX.nX3 {U : State} (h : NX U) : va_Nw (.methodLinkNest RX5 9 yX3_init "PartingMap") U := h.1
theorem NX.nX4 {U : State} (h : NX U) : va_Nw (.methodLinkNest RX5 18 yX4_init "PartingMap") U := h.2.1
theorem NX.nX1 {U : State} (h : NX U) : va_Nw (.methodLinkNest RX5 28 yX1_init "PartingMap") U := h.2.2.1
theorem NX.nX0 {U : State} (h : NX U) : va_Nw (.methodLinkNest RX5 38 yX0_init "PartingMap") U := h.2.2.2.1
theorem NX.nX2 {U : State} (h : NX U) : va_Nw (.methodLinkNest RX5 56 yX2_init "PartingMap") U := h.2.2.2.2.1
theorem NX.ao {U : State} (h : NX U) : va_AO RX2 U := h.2.2.2.2.2
theorem NX.warm {s U : State} (hW : s.WarmedH U.vm) (h : NX s) : NX U := ⟨va_Nw.warmM hW h.1, va_Nw.warmM hW h.2.1, va_Nw.warmM hW h.2.2.1, va_Nw.warmM hW h.2.2.2.1, va_Nw.warmM hW h.2.2.2.2.1, va_AO.moved hW.alike h.2.2.2.2.2⟩
theorem NX.same {s U : State} (e : s.vm = U.vm) (h : NX s) : NX U := ⟨va_Nw.same rfl e h.1, va_Nw.same rfl e h.2.1, va_Nw.same rfl e h.2.2.1, va_Nw.same rfl e h.2.2.2.1, va_Nw.same rfl e h.2.2.2.2.1, va_AO.moved (e ▸ Vm.Alike.refl s.vm) h.2.2.2.2.2⟩
def at_X0 (D : va_G) (A : Nat → Prop) (h0 : Nat) (t : State) : Prop := va_P D cls7 [(h0, .inr (0, [.int (Int32.ofInt (-1)), .int 0]))] t.heap ∧ va_K D cls7 [] t ∧ va_D A [(h0, .inr (0, [.int (Int32.ofInt (-1)), .int 0]))]
set_option maxHeartbeats 4000000 in
set_option maxRecDepth 100000 in
theorem ctor_X0 (l : Launch) (D : va_G) (h0 sz : Nat) : Met l yX0_init (.code yX0_init cX0_init 1 none :: gw) ({ frames := 1, cells := 0, slots := 0, locals := 12 }) (va_Pc [.ref h0] (fun U => U.heap.size = sz ∧ va_P D cls7 [(h0, .inr (0, [.int 0, .int 0]))] U.heap ∧ va_K D cls7 [] U ∧ va_D (fun _ => True) [(h0, .inr (0, [.int 0, .int 0]))])) (va_Qv (fun _ : Unit => True) (fun _ t => at_X0 D (va_A [(h0, .inr (0, [.int 0, .int 0]))] sz) h0 t) (va_A [(h0, .inr (0, [.int 0, .int 0]))] sz)) 0 0 (va_A [(h0, .inr (0, [.int 0, .int 0]))] sz) := by
  refine Met.ofW (cc := cX0_init) (maxL := 1) (ret := none) (by decide +kernel) rfl ?_
  intro p e s m args below meth c s₁ B hml hv
  obtain ⟨rfl, hsz, hP, hK, hD0⟩ := hv
  have hx := B.exec
  have hb := B.bytes
  have hr := B.returns
  have hts := atoms_spec (ws := .code yX0_init cX0_init 1 none :: gw) B.pre
  have hg : ∀ w ∈ gw, w.before _ s = true := fun w hw => hts w (List.mem_cons_of_mem _ hw)
  have hown : s.vm.findClass RX0 = some m.cls := findClass_of_methodNamed B.named
  have hlocks := B.notSynchronized
  have hin : meth.name = "<init>" := (name_of_methodNamed B.named B.method).1
  subst hsz
  have hD := hD0.self (sz := s.heap.size)
  generalize hAe : va_A [(h0, .inr (0, [.int 0, .int 0]))] s.heap.size = A at hD ⊢
  have hA : ∀ q : Nat, s.heap.size ≤ q → A q := fun q h => by rw [← hAe]; exact Or.inr h
  have hS : va_S A s.heap s.heap [] := va_S.rf
  have hl := lv_entry ([.ref h0]) (n := 1) (Nat.le_of_ble_eq_true rfl)
  rw [lg_entry_eq]
  generalize (lg_sl ([.ref h0]) ++ List.replicate (1 - (lg_sl ([.ref h0])).length) Slot.unset).toArray = ls at hl ⊢
  have hl : lv_has ls 1 [(0, .ref h0)] := hl
  refine lv_aload_n hx hb (kX0_init.at 0 rfl) rfl (lv_at hl 0 rfl) ?_
  refine W.objInit hx hb hown (hg _ ml_X0_3) (hg _ w_oi) (hg _ w_oc) rfl (by rw [hml]; exact hl.1) rfl (kX0_init.at 1 rfl) (Nat.le_of_ble_eq_true rfl) (Nat.le_of_ble_eq_true rfl) ?_
  refine W.eq (g2 := F0 m 4 ls []) rfl ?_
  refine lv_aload_n hx hb (kX0_init.at 2 rfl) rfl (lv_at hl 0 rfl) ?_
  refine lv_iconst (v := Int32.ofInt (-1)) hx hb (kX0_init.at 3 rfl) (by decide) ?_
  refine va_put (D := D) (cl := cls7) (ci := 0) (C := RX0) (T := TX0) (N := 2) (v := .int (Int32.ofInt (-1))) hx hb hg ly_X0 tyX0 tyX0_ok nmX0 hown hK hP hD hS 0 rfl rfl 0 (by decide) (hg _ (fg_X0_9.link rfl)) (fun _ h9 => h9) rfl (tyX0_ok 0 (by decide)) rfl rfl (Nat.le_of_ble_eq_true rfl) (kX0_init.at 4 rfl) (fun H locs hP hD hS => ?_)
  have hP : va_P D cls7 [(h0, .inr (0, [.int (Int32.ofInt (-1)), .int 0]))] H := hP
  have hD : va_D A [(h0, .inr (0, [.int (Int32.ofInt (-1)), .int 0]))] := hD
  exact W.vret hx hb hr (fun t ht hW => ⟨⟨(), rfl, trivial, by rw [ht]; exact hP, va_K.moved hW.alike hK, hD⟩, hS.F ht⟩) hS.2.2 (kX0_init.at 5 rfl) hlocks
def at_X2 (D : va_G) (A : Nat → Prop) (h0 : Nat) (t : State) : Prop := ∃ (cA : ClassId) (a0 : Nat), va_P D cls7 [(h0, .inr (2, [.ref a0, .int (Int32.ofInt (-1)), .int 0])), (a0, .inl (cA, 60, .inl (fun _ => 0)))] t.heap ∧ va_K D cls7 [(cA, .int)] t ∧ va_D A [(h0, .inr (2, [.ref a0, .int (Int32.ofInt (-1)), .int 0])), (a0, .inl (cA, 60, .inl (fun _ => 0)))]
set_option maxHeartbeats 4000000 in
set_option maxRecDepth 100000 in
theorem ctor_X2 (l : Launch) (D : va_G) (h0 sz : Nat) : Met l yX2_init (.code yX2_init cX2_init 1 none :: gw) ({ frames := 1, cells := 1, slots := 60, locals := 12 }) (va_Pc [.ref h0] (fun U => U.heap.size = sz ∧ va_P D cls7 [(h0, .inr (2, [.null, .int 0, .int 0]))] U.heap ∧ va_K D cls7 [] U ∧ va_D (fun _ => True) [(h0, .inr (2, [.null, .int 0, .int 0]))])) (va_Qv (fun _ : Unit => True) (fun _ t => at_X2 D (va_A [(h0, .inr (2, [.null, .int 0, .int 0]))] sz) h0 t) (va_A [(h0, .inr (2, [.null, .int 0, .int 0]))] sz)) 1 60 (va_A [(h0, .inr (2, [.null, .int 0, .int 0]))] sz) := by
  refine Met.ofW (cc := cX2_init) (maxL := 1) (ret := none) (by decide +kernel) rfl ?_
  intro p e s m args below meth c s₁ B hml hv
  obtain ⟨rfl, hsz, hP, hK, hD0⟩ := hv
  have hx := B.exec
  have hb := B.bytes
  have hr := B.returns
  have hts := atoms_spec (ws := .code yX2_init cX2_init 1 none :: gw) B.pre
  have hg : ∀ w ∈ gw, w.before _ s = true := fun w hw => hts w (List.mem_cons_of_mem _ hw)
  have hown : s.vm.findClass RX2 = some m.cls := findClass_of_methodNamed B.named
  have hlocks := B.notSynchronized
  have hin : meth.name = "<init>" := (name_of_methodNamed B.named B.method).1
  subst hsz
  have hD := hD0.self (sz := s.heap.size)
  generalize hAe : va_A [(h0, .inr (2, [.null, .int 0, .int 0]))] s.heap.size = A at hD ⊢
  have hA : ∀ q : Nat, s.heap.size ≤ q → A q := fun q h => by rw [← hAe]; exact Or.inr h
  have hS : va_S A s.heap s.heap [] := va_S.rf
  have hl := lv_entry ([.ref h0]) (n := 1) (Nat.le_of_ble_eq_true rfl)
  rw [lg_entry_eq]
  generalize (lg_sl ([.ref h0]) ++ List.replicate (1 - (lg_sl ([.ref h0])).length) Slot.unset).toArray = ls at hl ⊢
  have hl : lv_has ls 1 [(0, .ref h0)] := hl
  refine lv_aload_n hx hb (kX2_init.at 0 rfl) rfl (lv_at hl 0 rfl) ?_
  refine W.objInit hx hb hown (hg _ ml_X2_3) (hg _ w_oi) (hg _ w_oc) rfl (by rw [hml]; exact hl.1) rfl (kX2_init.at 1 rfl) (Nat.le_of_ble_eq_true rfl) (Nat.le_of_ble_eq_true rfl) ?_
  refine W.eq (g2 := F0 m 4 ls []) rfl ?_
  refine lv_aload_n hx hb (kX2_init.at 2 rfl) rfl (lv_at hl 0 rfl) ?_
  refine lv_bipush (v := Int32.ofInt 60) hx hb (kX2_init.at 3 rfl) (by decide) ?_
  refine va_newa (D := D) (cl := cls7) (atype := .int) (ty := .int) (a0 := (60, .inl (fun _ => 0))) hx hb (hg _ w_ar) rfl hK hP hD hS hA (fun _ => rfl) (by decide) rfl (by decide) (Nat.le_of_ble_eq_true rfl) (Nat.le_of_ble_eq_true rfl) (kX2_init.at 4 rfl) (fun q1 cA2 H hK hP hD hS => ?_)
  have hK : va_K D cls7 [(cA2, .int)] s := hK
  have hP : va_P D cls7 [(h0, .inr (2, [.null, .int 0, .int 0])), (q1, .inl (cA2, 60, .inl (fun _ => 0)))] H := hP
  have hD : va_D A [(h0, .inr (2, [.null, .int 0, .int 0])), (q1, .inl (cA2, 60, .inl (fun _ => 0)))] := hD
  refine W.widen (k := 1) (n := 60) (Nat.le_of_ble_eq_true rfl) (Nat.le_of_ble_eq_true rfl) ?_
  refine va_putF (D := D) (cl := cls7) (ci := 2) (C := RX2) (T := TX2) (N := 3) (v := .ref q1) hx hb hg ly_X2 tyX2 tyX2_ok nmX2 hown hK hP hD hS 0 rfl rfl 0 (by decide) (hg _ (fg_X2_9.link rfl)) (fun _ h9 => h9) rfl hin rfl (tyX2_ok 0 (by decide)) rfl rfl (Nat.le_of_ble_eq_true rfl) (kX2_init.at 5 rfl) (fun H locs hP hD hS => ?_)
  have hP : va_P D cls7 [(h0, .inr (2, [.ref q1, .int 0, .int 0])), (q1, .inl (cA2, 60, .inl (fun _ => 0)))] H := hP
  have hD : va_D A [(h0, .inr (2, [.ref q1, .int 0, .int 0])), (q1, .inl (cA2, 60, .inl (fun _ => 0)))] := hD
  refine lv_aload_n hx hb (kX2_init.at 6 rfl) rfl (lv_at hl 0 rfl) ?_
  refine lv_iconst (v := Int32.ofInt (-1)) hx hb (kX2_init.at 7 rfl) (by decide) ?_
  refine va_put (D := D) (cl := cls7) (ci := 2) (C := RX2) (T := TX2) (N := 3) (v := .int (Int32.ofInt (-1))) hx hb hg ly_X2 tyX2 tyX2_ok nmX2 hown hK hP hD hS 0 rfl rfl 1 (by decide) (hg _ (fg_X2_15.link rfl)) (fun _ h9 => h9) rfl (tyX2_ok 1 (by decide)) rfl rfl (Nat.le_of_ble_eq_true rfl) (kX2_init.at 8 rfl) (fun H locs hP hD hS => ?_)
  have hP : va_P D cls7 [(h0, .inr (2, [.ref q1, .int (Int32.ofInt (-1)), .int 0])), (q1, .inl (cA2, 60, .inl (fun _ => 0)))] H := hP
  have hD : va_D A [(h0, .inr (2, [.ref q1, .int (Int32.ofInt (-1)), .int 0])), (q1, .inl (cA2, 60, .inl (fun _ => 0)))] := hD
  exact W.vret hx hb hr (fun t ht hW => ⟨⟨(), rfl, trivial, cA2, q1, by rw [ht]; exact hP, va_K.moved hW.alike hK, hD⟩, hS.F ht⟩) hS.2.2 (kX2_init.at 9 rfl) hlocks
def at_X4 (D : va_G) (A : Nat → Prop) (h0 : Nat) (t : State) : Prop := ∃ (cA : ClassId) (a0 a1 a2 : Nat), va_P D cls7 [(h0, .inr (4, [.ref a0, .ref a1, .ref a2, .int 0])), (a0, .inl (cA, 8, .inl (fun _ => 0))), (a1, .inl (cA, 8, .inl (fun _ => 0))), (a2, .inl (cA, 8, .inl (fun _ => 0)))] t.heap ∧ va_K D cls7 [(cA, .int)] t ∧ va_D A [(h0, .inr (4, [.ref a0, .ref a1, .ref a2, .int 0])), (a0, .inl (cA, 8, .inl (fun _ => 0))), (a1, .inl (cA, 8, .inl (fun _ => 0))), (a2, .inl (cA, 8, .inl (fun _ => 0)))]
set_option maxHeartbeats 4000000 in
set_option maxRecDepth 100000 in
theorem ctor_X4 (l : Launch) (D : va_G) (h0 sz : Nat) : Met l yX4_init (.code yX4_init cX4_init 1 none :: gw) ({ frames := 1, cells := 3, slots := 24, locals := 12 }) (va_Pc [.ref h0] (fun U => U.heap.size = sz ∧ va_P D cls7 [(h0, .inr (4, [.null, .null, .null, .int 0]))] U.heap ∧ va_K D cls7 [] U ∧ va_D (fun _ => True) [(h0, .inr (4, [.null, .null, .null, .int 0]))])) (va_Qv (fun _ : Unit => True) (fun _ t => at_X4 D (va_A [(h0, .inr (4, [.null, .null, .null, .int 0]))] sz) h0 t) (va_A [(h0, .inr (4, [.null, .null, .null, .int 0]))] sz)) 3 24 (va_A [(h0, .inr (4, [.null, .null, .null, .int 0]))] sz) := by
  refine Met.ofW (cc := cX4_init) (maxL := 1) (ret := none) (by decide +kernel) rfl ?_
  intro p e s m args below meth c s₁ B hml hv
  obtain ⟨rfl, hsz, hP, hK, hD0⟩ := hv
  have hx := B.exec
  have hb := B.bytes
  have hr := B.returns
  have hts := atoms_spec (ws := .code yX4_init cX4_init 1 none :: gw) B.pre
  have hg : ∀ w ∈ gw, w.before _ s = true := fun w hw => hts w (List.mem_cons_of_mem _ hw)
  have hown : s.vm.findClass RX4 = some m.cls := findClass_of_methodNamed B.named
  have hlocks := B.notSynchronized
  have hin : meth.name = "<init>" := (name_of_methodNamed B.named B.method).1
  subst hsz
  have hD := hD0.self (sz := s.heap.size)
  generalize hAe : va_A [(h0, .inr (4, [.null, .null, .null, .int 0]))] s.heap.size = A at hD ⊢
  have hA : ∀ q : Nat, s.heap.size ≤ q → A q := fun q h => by rw [← hAe]; exact Or.inr h
  have hS : va_S A s.heap s.heap [] := va_S.rf
  have hl := lv_entry ([.ref h0]) (n := 1) (Nat.le_of_ble_eq_true rfl)
  rw [lg_entry_eq]
  generalize (lg_sl ([.ref h0]) ++ List.replicate (1 - (lg_sl ([.ref h0])).length) Slot.unset).toArray = ls at hl ⊢
  have hl : lv_has ls 1 [(0, .ref h0)] := hl
  refine lv_aload_n hx hb (kX4_init.at 0 rfl) rfl (lv_at hl 0 rfl) ?_
  refine W.objInit hx hb hown (hg _ ml_X4_3) (hg _ w_oi) (hg _ w_oc) rfl (by rw [hml]; exact hl.1) rfl (kX4_init.at 1 rfl) (Nat.le_of_ble_eq_true rfl) (Nat.le_of_ble_eq_true rfl) ?_
  refine W.eq (g2 := F0 m 4 ls []) rfl ?_
  refine lv_aload_n hx hb (kX4_init.at 2 rfl) rfl (lv_at hl 0 rfl) ?_
  refine lv_bipush (v := Int32.ofInt 8) hx hb (kX4_init.at 3 rfl) (by decide) ?_
  refine va_newa (D := D) (cl := cls7) (atype := .int) (ty := .int) (a0 := (8, .inl (fun _ => 0))) hx hb (hg _ w_ar) rfl hK hP hD hS hA (fun _ => rfl) (by decide) rfl (by decide) (Nat.le_of_ble_eq_true rfl) (Nat.le_of_ble_eq_true rfl) (kX4_init.at 4 rfl) (fun q1 cA2 H hK hP hD hS => ?_)
  have hK : va_K D cls7 [(cA2, .int)] s := hK
  have hP : va_P D cls7 [(h0, .inr (4, [.null, .null, .null, .int 0])), (q1, .inl (cA2, 8, .inl (fun _ => 0)))] H := hP
  have hD : va_D A [(h0, .inr (4, [.null, .null, .null, .int 0])), (q1, .inl (cA2, 8, .inl (fun _ => 0)))] := hD
  refine W.widen (k := 1) (n := 8) (Nat.le_of_ble_eq_true rfl) (Nat.le_of_ble_eq_true rfl) ?_
  refine va_putF (D := D) (cl := cls7) (ci := 4) (C := RX4) (T := TX4) (N := 4) (v := .ref q1) hx hb hg ly_X4 tyX4 tyX4_ok nmX4 hown hK hP hD hS 0 rfl rfl 0 (by decide) (hg _ (fg_X4_9.link rfl)) (fun _ h9 => h9) rfl hin rfl (tyX4_ok 0 (by decide)) rfl rfl (Nat.le_of_ble_eq_true rfl) (kX4_init.at 5 rfl) (fun H locs hP hD hS => ?_)
  have hP : va_P D cls7 [(h0, .inr (4, [.ref q1, .null, .null, .int 0])), (q1, .inl (cA2, 8, .inl (fun _ => 0)))] H := hP
  have hD : va_D A [(h0, .inr (4, [.ref q1, .null, .null, .int 0])), (q1, .inl (cA2, 8, .inl (fun _ => 0)))] := hD
  refine lv_aload_n hx hb (kX4_init.at 6 rfl) rfl (lv_at hl 0 rfl) ?_
  refine lv_bipush (v := Int32.ofInt 8) hx hb (kX4_init.at 7 rfl) (by decide) ?_
  refine va_newa (D := D) (cl := cls7) (atype := .int) (ty := .int) (a0 := (8, .inl (fun _ => 0))) hx hb (hg _ w_ar) rfl hK hP hD hS hA (fun _ => rfl) (by decide) rfl (by decide) (Nat.le_of_ble_eq_true rfl) (Nat.le_of_ble_eq_true rfl) (kX4_init.at 8 rfl) (fun q3 cA4 H hK hP hD hS => ?_)
  obtain rfl : cA2 = cA4 := (va_K_one hK 0 1 rfl rfl).symm
  have hK := hK.sub (tys' := [(cA2, .int)]) [0] rfl
  have hP : va_P D cls7 [(h0, .inr (4, [.ref q1, .null, .null, .int 0])), (q1, .inl (cA2, 8, .inl (fun _ => 0))), (q3, .inl (cA2, 8, .inl (fun _ => 0)))] H := hP
  have hD : va_D A [(h0, .inr (4, [.ref q1, .null, .null, .int 0])), (q1, .inl (cA2, 8, .inl (fun _ => 0))), (q3, .inl (cA2, 8, .inl (fun _ => 0)))] := hD
  refine W.widen (k := 2) (n := 16) (Nat.le_of_ble_eq_true rfl) (Nat.le_of_ble_eq_true rfl) ?_
  refine va_putF (D := D) (cl := cls7) (ci := 4) (C := RX4) (T := TX4) (N := 4) (v := .ref q3) hx hb hg ly_X4 tyX4 tyX4_ok nmX4 hown hK hP hD hS 0 rfl rfl 1 (by decide) (hg _ (fg_X4_15.link rfl)) (fun _ h9 => h9) rfl hin rfl (tyX4_ok 1 (by decide)) rfl rfl (Nat.le_of_ble_eq_true rfl) (kX4_init.at 9 rfl) (fun H locs hP hD hS => ?_)
  have hP : va_P D cls7 [(h0, .inr (4, [.ref q1, .ref q3, .null, .int 0])), (q1, .inl (cA2, 8, .inl (fun _ => 0))), (q3, .inl (cA2, 8, .inl (fun _ => 0)))] H := hP
  have hD : va_D A [(h0, .inr (4, [.ref q1, .ref q3, .null, .int 0])), (q1, .inl (cA2, 8, .inl (fun _ => 0))), (q3, .inl (cA2, 8, .inl (fun _ => 0)))] := hD
  refine lv_aload_n hx hb (kX4_init.at 10 rfl) rfl (lv_at hl 0 rfl) ?_
  refine lv_bipush (v := Int32.ofInt 8) hx hb (kX4_init.at 11 rfl) (by decide) ?_
  refine va_newa (D := D) (cl := cls7) (atype := .int) (ty := .int) (a0 := (8, .inl (fun _ => 0))) hx hb (hg _ w_ar) rfl hK hP hD hS hA (fun _ => rfl) (by decide) rfl (by decide) (Nat.le_of_ble_eq_true rfl) (Nat.le_of_ble_eq_true rfl) (kX4_init.at 12 rfl) (fun q5 cA6 H hK hP hD hS => ?_)
  obtain rfl : cA2 = cA6 := (va_K_one hK 0 1 rfl rfl).symm
  have hK := hK.sub (tys' := [(cA2, .int)]) [0] rfl
  have hP : va_P D cls7 [(h0, .inr (4, [.ref q1, .ref q3, .null, .int 0])), (q1, .inl (cA2, 8, .inl (fun _ => 0))), (q3, .inl (cA2, 8, .inl (fun _ => 0))), (q5, .inl (cA2, 8, .inl (fun _ => 0)))] H := hP
  have hD : va_D A [(h0, .inr (4, [.ref q1, .ref q3, .null, .int 0])), (q1, .inl (cA2, 8, .inl (fun _ => 0))), (q3, .inl (cA2, 8, .inl (fun _ => 0))), (q5, .inl (cA2, 8, .inl (fun _ => 0)))] := hD
  refine W.widen (k := 3) (n := 24) (Nat.le_of_ble_eq_true rfl) (Nat.le_of_ble_eq_true rfl) ?_
  refine va_putF (D := D) (cl := cls7) (ci := 4) (C := RX4) (T := TX4) (N := 4) (v := .ref q5) hx hb hg ly_X4 tyX4 tyX4_ok nmX4 hown hK hP hD hS 0 rfl rfl 2 (by decide) (hg _ (fg_X4_18.link rfl)) (fun _ h9 => h9) rfl hin rfl (tyX4_ok 2 (by decide)) rfl rfl (Nat.le_of_ble_eq_true rfl) (kX4_init.at 13 rfl) (fun H locs hP hD hS => ?_)
  have hP : va_P D cls7 [(h0, .inr (4, [.ref q1, .ref q3, .ref q5, .int 0])), (q1, .inl (cA2, 8, .inl (fun _ => 0))), (q3, .inl (cA2, 8, .inl (fun _ => 0))), (q5, .inl (cA2, 8, .inl (fun _ => 0)))] H := hP
  have hD : va_D A [(h0, .inr (4, [.ref q1, .ref q3, .ref q5, .int 0])), (q1, .inl (cA2, 8, .inl (fun _ => 0))), (q3, .inl (cA2, 8, .inl (fun _ => 0))), (q5, .inl (cA2, 8, .inl (fun _ => 0)))] := hD
  exact W.vret hx hb hr (fun t ht hW => ⟨⟨(), rfl, trivial, cA2, q1, q3, q5, by rw [ht]; exact hP, va_K.moved hW.alike hK, hD⟩, hS.F ht⟩) hS.2.2 (kX4_init.at 14 rfl) hlocks
def at_X3 (D : va_G) (A : Nat → Prop) (h0 : Nat) (t : State) : Prop := ∃ (cA : ClassId) (a0 a1 a2 a3 : Nat), va_P D cls7 [(h0, .inr (3, [.ref a0, .ref a1, .ref a2, .ref a3, .int 0, .int 0, .int (Int32.ofInt (-1))])), (a0, .inl (cA, 31, .inl (fun _ => 0))), (a1, .inl (cA, 8, .inl (fun _ => 0))), (a2, .inl (cA, 8, .inl (fun _ => 0))), (a3, .inl (cA, 8, .inl (fun _ => 0)))] t.heap ∧ va_K D cls7 [(cA, .int)] t ∧ va_D A [(h0, .inr (3, [.ref a0, .ref a1, .ref a2, .ref a3, .int 0, .int 0, .int (Int32.ofInt (-1))])), (a0, .inl (cA, 31, .inl (fun _ => 0))), (a1, .inl (cA, 8, .inl (fun _ => 0))), (a2, .inl (cA, 8, .inl (fun _ => 0))), (a3, .inl (cA, 8, .inl (fun _ => 0)))]
set_option maxHeartbeats 4000000 in
set_option maxRecDepth 100000 in
theorem ctor_X3 (l : Launch) (D : va_G) (h0 sz : Nat) : Met l yX3_init (.code yX3_init cX3_init 1 none :: gw) ({ frames := 1, cells := 4, slots := 55, locals := 12 }) (va_Pc [.ref h0] (fun U => U.heap.size = sz ∧ va_P D cls7 [(h0, .inr (3, [.null, .null, .null, .null, .int 0, .int 0, .int 0]))] U.heap ∧ va_K D cls7 [] U ∧ va_D (fun _ => True) [(h0, .inr (3, [.null, .null, .null, .null, .int 0, .int 0, .int 0]))])) (va_Qv (fun _ : Unit => True) (fun _ t => at_X3 D (va_A [(h0, .inr (3, [.null, .null, .null, .null, .int 0, .int 0, .int 0]))] sz) h0 t) (va_A [(h0, .inr (3, [.null, .null, .null, .null, .int 0, .int 0, .int 0]))] sz)) 4 55 (va_A [(h0, .inr (3, [.null, .null, .null, .null, .int 0, .int 0, .int 0]))] sz) := by
  refine Met.ofW (cc := cX3_init) (maxL := 1) (ret := none) (by decide +kernel) rfl ?_
  intro p e s m args below meth c s₁ B hml hv
  obtain ⟨rfl, hsz, hP, hK, hD0⟩ := hv
  have hx := B.exec
  have hb := B.bytes
  have hr := B.returns
  have hts := atoms_spec (ws := .code yX3_init cX3_init 1 none :: gw) B.pre
  have hg : ∀ w ∈ gw, w.before _ s = true := fun w hw => hts w (List.mem_cons_of_mem _ hw)
  have hown : s.vm.findClass RX3 = some m.cls := findClass_of_methodNamed B.named
  have hlocks := B.notSynchronized
  have hin : meth.name = "<init>" := (name_of_methodNamed B.named B.method).1
  subst hsz
  have hD := hD0.self (sz := s.heap.size)
  generalize hAe : va_A [(h0, .inr (3, [.null, .null, .null, .null, .int 0, .int 0, .int 0]))] s.heap.size = A at hD ⊢
  have hA : ∀ q : Nat, s.heap.size ≤ q → A q := fun q h => by rw [← hAe]; exact Or.inr h
  have hS : va_S A s.heap s.heap [] := va_S.rf
  have hl := lv_entry ([.ref h0]) (n := 1) (Nat.le_of_ble_eq_true rfl)
  rw [lg_entry_eq]
  generalize (lg_sl ([.ref h0]) ++ List.replicate (1 - (lg_sl ([.ref h0])).length) Slot.unset).toArray = ls at hl ⊢
  have hl : lv_has ls 1 [(0, .ref h0)] := hl
  refine lv_aload_n hx hb (kX3_init.at 0 rfl) rfl (lv_at hl 0 rfl) ?_
  refine W.objInit hx hb hown (hg _ ml_X3_3) (hg _ w_oi) (hg _ w_oc) rfl (by rw [hml]; exact hl.1) rfl (kX3_init.at 1 rfl) (Nat.le_of_ble_eq_true rfl) (Nat.le_of_ble_eq_true rfl) ?_
  refine W.eq (g2 := F0 m 4 ls []) rfl ?_
  refine lv_aload_n hx hb (kX3_init.at 2 rfl) rfl (lv_at hl 0 rfl) ?_
  refine lv_bipush (v := Int32.ofInt 31) hx hb (kX3_init.at 3 rfl) (by decide) ?_
  refine va_newa (D := D) (cl := cls7) (atype := .int) (ty := .int) (a0 := (31, .inl (fun _ => 0))) hx hb (hg _ w_ar) rfl hK hP hD hS hA (fun _ => rfl) (by decide) rfl (by decide) (Nat.le_of_ble_eq_true rfl) (Nat.le_of_ble_eq_true rfl) (kX3_init.at 4 rfl) (fun q1 cA2 H hK hP hD hS => ?_)
  have hK : va_K D cls7 [(cA2, .int)] s := hK
  have hP : va_P D cls7 [(h0, .inr (3, [.null, .null, .null, .null, .int 0, .int 0, .int 0])), (q1, .inl (cA2, 31, .inl (fun _ => 0)))] H := hP
  have hD : va_D A [(h0, .inr (3, [.null, .null, .null, .null, .int 0, .int 0, .int 0])), (q1, .inl (cA2, 31, .inl (fun _ => 0)))] := hD
  refine W.widen (k := 1) (n := 31) (Nat.le_of_ble_eq_true rfl) (Nat.le_of_ble_eq_true rfl) ?_
  refine va_putF (D := D) (cl := cls7) (ci := 3) (C := RX3) (T := TX3) (N := 7) (v := .ref q1) hx hb hg ly_X3 tyX3 tyX3_ok nmX3 hown hK hP hD hS 0 rfl rfl 0 (by decide) (hg _ (fg_X3_9.link rfl)) (fun _ h9 => h9) rfl hin rfl (tyX3_ok 0 (by decide)) rfl rfl (Nat.le_of_ble_eq_true rfl) (kX3_init.at 5 rfl) (fun H locs hP hD hS => ?_)
  have hP : va_P D cls7 [(h0, .inr (3, [.ref q1, .null, .null, .null, .int 0, .int 0, .int 0])), (q1, .inl (cA2, 31, .inl (fun _ => 0)))] H := hP
  have hD : va_D A [(h0, .inr (3, [.ref q1, .null, .null, .null, .int 0, .int 0, .int 0])), (q1, .inl (cA2, 31, .inl (fun _ => 0)))] := hD
  refine lv_aload_n hx hb (kX3_init.at 6 rfl) rfl (lv_at hl 0 rfl) ?_
  refine lv_bipush (v := Int32.ofInt 8) hx hb (kX3_init.at 7 rfl) (by decide) ?_
  refine va_newa (D := D) (cl := cls7) (atype := .int) (ty := .int) (a0 := (8, .inl (fun _ => 0))) hx hb (hg _ w_ar) rfl hK hP hD hS hA (fun _ => rfl) (by decide) rfl (by decide) (Nat.le_of_ble_eq_true rfl) (Nat.le_of_ble_eq_true rfl) (kX3_init.at 8 rfl) (fun q3 cA4 H hK hP hD hS => ?_)
  obtain rfl : cA2 = cA4 := (va_K_one hK 0 1 rfl rfl).symm
  have hK := hK.sub (tys' := [(cA2, .int)]) [0] rfl
  have hP : va_P D cls7 [(h0, .inr (3, [.ref q1, .null, .null, .null, .int 0, .int 0, .int 0])), (q1, .inl (cA2, 31, .inl (fun _ => 0))), (q3, .inl (cA2, 8, .inl (fun _ => 0)))] H := hP
  have hD : va_D A [(h0, .inr (3, [.ref q1, .null, .null, .null, .int 0, .int 0, .int 0])), (q1, .inl (cA2, 31, .inl (fun _ => 0))), (q3, .inl (cA2, 8, .inl (fun _ => 0)))] := hD
  refine W.widen (k := 2) (n := 39) (Nat.le_of_ble_eq_true rfl) (Nat.le_of_ble_eq_true rfl) ?_
  refine va_putF (D := D) (cl := cls7) (ci := 3) (C := RX3) (T := TX3) (N := 7) (v := .ref q3) hx hb hg ly_X3 tyX3 tyX3_ok nmX3 hown hK hP hD hS 0 rfl rfl 1 (by decide) (hg _ (fg_X3_15.link rfl)) (fun _ h9 => h9) rfl hin rfl (tyX3_ok 1 (by decide)) rfl rfl (Nat.le_of_ble_eq_true rfl) (kX3_init.at 9 rfl) (fun H locs hP hD hS => ?_)
  have hP : va_P D cls7 [(h0, .inr (3, [.ref q1, .ref q3, .null, .null, .int 0, .int 0, .int 0])), (q1, .inl (cA2, 31, .inl (fun _ => 0))), (q3, .inl (cA2, 8, .inl (fun _ => 0)))] H := hP
  have hD : va_D A [(h0, .inr (3, [.ref q1, .ref q3, .null, .null, .int 0, .int 0, .int 0])), (q1, .inl (cA2, 31, .inl (fun _ => 0))), (q3, .inl (cA2, 8, .inl (fun _ => 0)))] := hD
  refine lv_aload_n hx hb (kX3_init.at 10 rfl) rfl (lv_at hl 0 rfl) ?_
  refine lv_bipush (v := Int32.ofInt 8) hx hb (kX3_init.at 11 rfl) (by decide) ?_
  refine va_newa (D := D) (cl := cls7) (atype := .int) (ty := .int) (a0 := (8, .inl (fun _ => 0))) hx hb (hg _ w_ar) rfl hK hP hD hS hA (fun _ => rfl) (by decide) rfl (by decide) (Nat.le_of_ble_eq_true rfl) (Nat.le_of_ble_eq_true rfl) (kX3_init.at 12 rfl) (fun q5 cA6 H hK hP hD hS => ?_)
  obtain rfl : cA2 = cA6 := (va_K_one hK 0 1 rfl rfl).symm
  have hK := hK.sub (tys' := [(cA2, .int)]) [0] rfl
  have hP : va_P D cls7 [(h0, .inr (3, [.ref q1, .ref q3, .null, .null, .int 0, .int 0, .int 0])), (q1, .inl (cA2, 31, .inl (fun _ => 0))), (q3, .inl (cA2, 8, .inl (fun _ => 0))), (q5, .inl (cA2, 8, .inl (fun _ => 0)))] H := hP
  have hD : va_D A [(h0, .inr (3, [.ref q1, .ref q3, .null, .null, .int 0, .int 0, .int 0])), (q1, .inl (cA2, 31, .inl (fun _ => 0))), (q3, .inl (cA2, 8, .inl (fun _ => 0))), (q5, .inl (cA2, 8, .inl (fun _ => 0)))] := hD
  refine W.widen (k := 3) (n := 47) (Nat.le_of_ble_eq_true rfl) (Nat.le_of_ble_eq_true rfl) ?_
  refine va_putF (D := D) (cl := cls7) (ci := 3) (C := RX3) (T := TX3) (N := 7) (v := .ref q5) hx hb hg ly_X3 tyX3 tyX3_ok nmX3 hown hK hP hD hS 0 rfl rfl 2 (by decide) (hg _ (fg_X3_18.link rfl)) (fun _ h9 => h9) rfl hin rfl (tyX3_ok 2 (by decide)) rfl rfl (Nat.le_of_ble_eq_true rfl) (kX3_init.at 13 rfl) (fun H locs hP hD hS => ?_)
  have hP : va_P D cls7 [(h0, .inr (3, [.ref q1, .ref q3, .ref q5, .null, .int 0, .int 0, .int 0])), (q1, .inl (cA2, 31, .inl (fun _ => 0))), (q3, .inl (cA2, 8, .inl (fun _ => 0))), (q5, .inl (cA2, 8, .inl (fun _ => 0)))] H := hP
  have hD : va_D A [(h0, .inr (3, [.ref q1, .ref q3, .ref q5, .null, .int 0, .int 0, .int 0])), (q1, .inl (cA2, 31, .inl (fun _ => 0))), (q3, .inl (cA2, 8, .inl (fun _ => 0))), (q5, .inl (cA2, 8, .inl (fun _ => 0)))] := hD
  refine lv_aload_n hx hb (kX3_init.at 14 rfl) rfl (lv_at hl 0 rfl) ?_
  refine lv_bipush (v := Int32.ofInt 8) hx hb (kX3_init.at 15 rfl) (by decide) ?_
  refine va_newa (D := D) (cl := cls7) (atype := .int) (ty := .int) (a0 := (8, .inl (fun _ => 0))) hx hb (hg _ w_ar) rfl hK hP hD hS hA (fun _ => rfl) (by decide) rfl (by decide) (Nat.le_of_ble_eq_true rfl) (Nat.le_of_ble_eq_true rfl) (kX3_init.at 16 rfl) (fun q7 cA8 H hK hP hD hS => ?_)
  obtain rfl : cA2 = cA8 := (va_K_one hK 0 1 rfl rfl).symm
  have hK := hK.sub (tys' := [(cA2, .int)]) [0] rfl
  have hP : va_P D cls7 [(h0, .inr (3, [.ref q1, .ref q3, .ref q5, .null, .int 0, .int 0, .int 0])), (q1, .inl (cA2, 31, .inl (fun _ => 0))), (q3, .inl (cA2, 8, .inl (fun _ => 0))), (q5, .inl (cA2, 8, .inl (fun _ => 0))), (q7, .inl (cA2, 8, .inl (fun _ => 0)))] H := hP
  have hD : va_D A [(h0, .inr (3, [.ref q1, .ref q3, .ref q5, .null, .int 0, .int 0, .int 0])), (q1, .inl (cA2, 31, .inl (fun _ => 0))), (q3, .inl (cA2, 8, .inl (fun _ => 0))), (q5, .inl (cA2, 8, .inl (fun _ => 0))), (q7, .inl (cA2, 8, .inl (fun _ => 0)))] := hD
  refine W.widen (k := 4) (n := 55) (Nat.le_of_ble_eq_true rfl) (Nat.le_of_ble_eq_true rfl) ?_
  refine va_putF (D := D) (cl := cls7) (ci := 3) (C := RX3) (T := TX3) (N := 7) (v := .ref q7) hx hb hg ly_X3 tyX3 tyX3_ok nmX3 hown hK hP hD hS 0 rfl rfl 3 (by decide) (hg _ (fg_X3_21.link rfl)) (fun _ h9 => h9) rfl hin rfl (tyX3_ok 3 (by decide)) rfl rfl (Nat.le_of_ble_eq_true rfl) (kX3_init.at 17 rfl) (fun H locs hP hD hS => ?_)
  have hP : va_P D cls7 [(h0, .inr (3, [.ref q1, .ref q3, .ref q5, .ref q7, .int 0, .int 0, .int 0])), (q1, .inl (cA2, 31, .inl (fun _ => 0))), (q3, .inl (cA2, 8, .inl (fun _ => 0))), (q5, .inl (cA2, 8, .inl (fun _ => 0))), (q7, .inl (cA2, 8, .inl (fun _ => 0)))] H := hP
  have hD : va_D A [(h0, .inr (3, [.ref q1, .ref q3, .ref q5, .ref q7, .int 0, .int 0, .int 0])), (q1, .inl (cA2, 31, .inl (fun _ => 0))), (q3, .inl (cA2, 8, .inl (fun _ => 0))), (q5, .inl (cA2, 8, .inl (fun _ => 0))), (q7, .inl (cA2, 8, .inl (fun _ => 0)))] := hD
  refine lv_aload_n hx hb (kX3_init.at 18 rfl) rfl (lv_at hl 0 rfl) ?_
  refine lv_iconst (v := Int32.ofInt (-1)) hx hb (kX3_init.at 19 rfl) (by decide) ?_
  refine va_put (D := D) (cl := cls7) (ci := 3) (C := RX3) (T := TX3) (N := 7) (v := .int (Int32.ofInt (-1))) hx hb hg ly_X3 tyX3 tyX3_ok nmX3 hown hK hP hD hS 0 rfl rfl 6 (by decide) (hg _ (fg_X3_24.link rfl)) (fun _ h9 => h9) rfl (tyX3_ok 6 (by decide)) rfl rfl (Nat.le_of_ble_eq_true rfl) (kX3_init.at 20 rfl) (fun H locs hP hD hS => ?_)
  have hP : va_P D cls7 [(h0, .inr (3, [.ref q1, .ref q3, .ref q5, .ref q7, .int 0, .int 0, .int (Int32.ofInt (-1))])), (q1, .inl (cA2, 31, .inl (fun _ => 0))), (q3, .inl (cA2, 8, .inl (fun _ => 0))), (q5, .inl (cA2, 8, .inl (fun _ => 0))), (q7, .inl (cA2, 8, .inl (fun _ => 0)))] H := hP
  have hD : va_D A [(h0, .inr (3, [.ref q1, .ref q3, .ref q5, .ref q7, .int 0, .int 0, .int (Int32.ofInt (-1))])), (q1, .inl (cA2, 31, .inl (fun _ => 0))), (q3, .inl (cA2, 8, .inl (fun _ => 0))), (q5, .inl (cA2, 8, .inl (fun _ => 0))), (q7, .inl (cA2, 8, .inl (fun _ => 0)))] := hD
  exact W.vret hx hb hr (fun t ht hW => ⟨⟨(), rfl, trivial, cA2, q1, q3, q5, q7, by rw [ht]; exact hP, va_K.moved hW.alike hK, hD⟩, hS.F ht⟩) hS.2.2 (kX3_init.at 21 rfl) hlocks
def at_X1 (D : va_G) (A : Nat → Prop) (h0 : Nat) (t : State) : Prop := ∃ (cA : ClassId) (a0 a1 a2 a3 a4 a5 a6 a7 : Nat), va_P D cls7 [(h0, .inr (1, [.ref a0, .ref a1, .ref a2, .ref a3, .ref a4, .ref a5, .ref a6, .ref a7, .int 0, .int 0, .int 0, .int 0, .int (Int32.ofInt (-1)), .int (Int32.ofInt (-1)), .int 0])), (a0, .inl (cA, 8, .inl (fun _ => 0))), (a1, .inl (cA, 8, .inl (fun _ => 0))), (a2, .inl (cA, 8, .inl (fun _ => 0))), (a3, .inl (cA, 16, .inl (fun _ => 0))), (a4, .inl (cA, 8, .inl (fun _ => 0))), (a5, .inl (cA, 8, .inl (fun _ => 0))), (a6, .inl (cA, 12, .inl (fun _ => 0))), (a7, .inl (cA, 128, .inl (fun _ => 0)))] t.heap ∧ va_K D cls7 [(cA, .int)] t ∧ va_D A [(h0, .inr (1, [.ref a0, .ref a1, .ref a2, .ref a3, .ref a4, .ref a5, .ref a6, .ref a7, .int 0, .int 0, .int 0, .int 0, .int (Int32.ofInt (-1)), .int (Int32.ofInt (-1)), .int 0])), (a0, .inl (cA, 8, .inl (fun _ => 0))), (a1, .inl (cA, 8, .inl (fun _ => 0))), (a2, .inl (cA, 8, .inl (fun _ => 0))), (a3, .inl (cA, 16, .inl (fun _ => 0))), (a4, .inl (cA, 8, .inl (fun _ => 0))), (a5, .inl (cA, 8, .inl (fun _ => 0))), (a6, .inl (cA, 12, .inl (fun _ => 0))), (a7, .inl (cA, 128, .inl (fun _ => 0)))]
set_option maxHeartbeats 4000000 in
set_option maxRecDepth 100000 in
theorem ctor_X1 (l : Launch) (D : va_G) (h0 sz : Nat) : Met l yX1_init (.code yX1_init cX1_init 1 none :: gw) ({ frames := 1, cells := 8, slots := 196, locals := 12 }) (va_Pc [.ref h0] (fun U => U.heap.size = sz ∧ va_P D cls7 [(h0, .inr (1, [.null, .null, .null, .null, .null, .null, .null, .null, .int 0, .int 0, .int 0, .int 0, .int 0, .int 0, .int 0]))] U.heap ∧ va_K D cls7 [] U ∧ va_D (fun _ => True) [(h0, .inr (1, [.null, .null, .null, .null, .null, .null, .null, .null, .int 0, .int 0, .int 0, .int 0, .int 0, .int 0, .int 0]))])) (va_Qv (fun _ : Unit => True) (fun _ t => at_X1 D (va_A [(h0, .inr (1, [.null, .null, .null, .null, .null, .null, .null, .null, .int 0, .int 0, .int 0, .int 0, .int 0, .int 0, .int 0]))] sz) h0 t) (va_A [(h0, .inr (1, [.null, .null, .null, .null, .null, .null, .null, .null, .int 0, .int 0, .int 0, .int 0, .int 0, .int 0, .int 0]))] sz)) 8 196 (va_A [(h0, .inr (1, [.null, .null, .null, .null, .null, .null, .null, .null, .int 0, .int 0, .int 0, .int 0, .int 0, .int 0, .int 0]))] sz) := by
  refine Met.ofW (cc := cX1_init) (maxL := 1) (ret := none) (by decide +kernel) rfl ?_
  intro p e s m args below meth c s₁ B hml hv
  obtain ⟨rfl, hsz, hP, hK, hD0⟩ := hv
  have hx := B.exec
  have hb := B.bytes
  have hr := B.returns
  have hts := atoms_spec (ws := .code yX1_init cX1_init 1 none :: gw) B.pre
  have hg : ∀ w ∈ gw, w.before _ s = true := fun w hw => hts w (List.mem_cons_of_mem _ hw)
  have hown : s.vm.findClass RX1 = some m.cls := findClass_of_methodNamed B.named
  have hlocks := B.notSynchronized
  have hin : meth.name = "<init>" := (name_of_methodNamed B.named B.method).1
  subst hsz
  have hD := hD0.self (sz := s.heap.size)
  generalize hAe : va_A [(h0, .inr (1, [.null, .null, .null, .null, .null, .null, .null, .null, .int 0, .int 0, .int 0, .int 0, .int 0, .int 0, .int 0]))] s.heap.size = A at hD ⊢
  have hA : ∀ q : Nat, s.heap.size ≤ q → A q := fun q h => by rw [← hAe]; exact Or.inr h
  have hS : va_S A s.heap s.heap [] := va_S.rf
  have hl := lv_entry ([.ref h0]) (n := 1) (Nat.le_of_ble_eq_true rfl)
  rw [lg_entry_eq]
  generalize (lg_sl ([.ref h0]) ++ List.replicate (1 - (lg_sl ([.ref h0])).length) Slot.unset).toArray = ls at hl ⊢
  have hl : lv_has ls 1 [(0, .ref h0)] := hl
  refine lv_aload_n hx hb (kX1_init.at 0 rfl) rfl (lv_at hl 0 rfl) ?_
  refine W.objInit hx hb hown (hg _ ml_X1_3) (hg _ w_oi) (hg _ w_oc) rfl (by rw [hml]; exact hl.1) rfl (kX1_init.at 1 rfl) (Nat.le_of_ble_eq_true rfl) (Nat.le_of_ble_eq_true rfl) ?_
  refine W.eq (g2 := F0 m 4 ls []) rfl ?_
  refine lv_aload_n hx hb (kX1_init.at 2 rfl) rfl (lv_at hl 0 rfl) ?_
  refine lv_bipush (v := Int32.ofInt 8) hx hb (kX1_init.at 3 rfl) (by decide) ?_
  refine va_newa (D := D) (cl := cls7) (atype := .int) (ty := .int) (a0 := (8, .inl (fun _ => 0))) hx hb (hg _ w_ar) rfl hK hP hD hS hA (fun _ => rfl) (by decide) rfl (by decide) (Nat.le_of_ble_eq_true rfl) (Nat.le_of_ble_eq_true rfl) (kX1_init.at 4 rfl) (fun q1 cA2 H hK hP hD hS => ?_)
  have hK : va_K D cls7 [(cA2, .int)] s := hK
  have hP : va_P D cls7 [(h0, .inr (1, [.null, .null, .null, .null, .null, .null, .null, .null, .int 0, .int 0, .int 0, .int 0, .int 0, .int 0, .int 0])), (q1, .inl (cA2, 8, .inl (fun _ => 0)))] H := hP
  have hD : va_D A [(h0, .inr (1, [.null, .null, .null, .null, .null, .null, .null, .null, .int 0, .int 0, .int 0, .int 0, .int 0, .int 0, .int 0])), (q1, .inl (cA2, 8, .inl (fun _ => 0)))] := hD
  refine W.widen (k := 1) (n := 8) (Nat.le_of_ble_eq_true rfl) (Nat.le_of_ble_eq_true rfl) ?_
  refine va_putF (D := D) (cl := cls7) (ci := 1) (C := RX1) (T := TX1) (N := 15) (v := .ref q1) hx hb hg ly_X1 tyX1 tyX1_ok nmX1 hown hK hP hD hS 0 rfl rfl 0 (by decide) (hg _ (fg_X1_9.link rfl)) (fun _ h9 => h9) rfl hin rfl (tyX1_ok 0 (by decide)) rfl rfl (Nat.le_of_ble_eq_true rfl) (kX1_init.at 5 rfl) (fun H locs hP hD hS => ?_)
  have hP : va_P D cls7 [(h0, .inr (1, [.ref q1, .null, .null, .null, .null, .null, .null, .null, .int 0, .int 0, .int 0, .int 0, .int 0, .int 0, .int 0])), (q1, .inl (cA2, 8, .inl (fun _ => 0)))] H := hP
  have hD : va_D A [(h0, .inr (1, [.ref q1, .null, .null, .null, .null, .null, .null, .null, .int 0, .int 0, .int 0, .int 0, .int 0, .int 0, .int 0])), (q1, .inl (cA2, 8, .inl (fun _ => 0)))] := hD
  refine lv_aload_n hx hb (kX1_init.at 6 rfl) rfl (lv_at hl 0 rfl) ?_
  refine lv_bipush (v := Int32.ofInt 8) hx hb (kX1_init.at 7 rfl) (by decide) ?_
  refine va_newa (D := D) (cl := cls7) (atype := .int) (ty := .int) (a0 := (8, .inl (fun _ => 0))) hx hb (hg _ w_ar) rfl hK hP hD hS hA (fun _ => rfl) (by decide) rfl (by decide) (Nat.le_of_ble_eq_true rfl) (Nat.le_of_ble_eq_true rfl) (kX1_init.at 8 rfl) (fun q3 cA4 H hK hP hD hS => ?_)
  obtain rfl : cA2 = cA4 := (va_K_one hK 0 1 rfl rfl).symm
  have hK := hK.sub (tys' := [(cA2, .int)]) [0] rfl
  have hP : va_P D cls7 [(h0, .inr (1, [.ref q1, .null, .null, .null, .null, .null, .null, .null, .int 0, .int 0, .int 0, .int 0, .int 0, .int 0, .int 0])), (q1, .inl (cA2, 8, .inl (fun _ => 0))), (q3, .inl (cA2, 8, .inl (fun _ => 0)))] H := hP
  have hD : va_D A [(h0, .inr (1, [.ref q1, .null, .null, .null, .null, .null, .null, .null, .int 0, .int 0, .int 0, .int 0, .int 0, .int 0, .int 0])), (q1, .inl (cA2, 8, .inl (fun _ => 0))), (q3, .inl (cA2, 8, .inl (fun _ => 0)))] := hD
  refine W.widen (k := 2) (n := 16) (Nat.le_of_ble_eq_true rfl) (Nat.le_of_ble_eq_true rfl) ?_
  refine va_putF (D := D) (cl := cls7) (ci := 1) (C := RX1) (T := TX1) (N := 15) (v := .ref q3) hx hb hg ly_X1 tyX1 tyX1_ok nmX1 hown hK hP hD hS 0 rfl rfl 1 (by decide) (hg _ (fg_X1_15.link rfl)) (fun _ h9 => h9) rfl hin rfl (tyX1_ok 1 (by decide)) rfl rfl (Nat.le_of_ble_eq_true rfl) (kX1_init.at 9 rfl) (fun H locs hP hD hS => ?_)
  have hP : va_P D cls7 [(h0, .inr (1, [.ref q1, .ref q3, .null, .null, .null, .null, .null, .null, .int 0, .int 0, .int 0, .int 0, .int 0, .int 0, .int 0])), (q1, .inl (cA2, 8, .inl (fun _ => 0))), (q3, .inl (cA2, 8, .inl (fun _ => 0)))] H := hP
  have hD : va_D A [(h0, .inr (1, [.ref q1, .ref q3, .null, .null, .null, .null, .null, .null, .int 0, .int 0, .int 0, .int 0, .int 0, .int 0, .int 0])), (q1, .inl (cA2, 8, .inl (fun _ => 0))), (q3, .inl (cA2, 8, .inl (fun _ => 0)))] := hD
  refine lv_aload_n hx hb (kX1_init.at 10 rfl) rfl (lv_at hl 0 rfl) ?_
  refine lv_bipush (v := Int32.ofInt 8) hx hb (kX1_init.at 11 rfl) (by decide) ?_
  refine va_newa (D := D) (cl := cls7) (atype := .int) (ty := .int) (a0 := (8, .inl (fun _ => 0))) hx hb (hg _ w_ar) rfl hK hP hD hS hA (fun _ => rfl) (by decide) rfl (by decide) (Nat.le_of_ble_eq_true rfl) (Nat.le_of_ble_eq_true rfl) (kX1_init.at 12 rfl) (fun q5 cA6 H hK hP hD hS => ?_)
  obtain rfl : cA2 = cA6 := (va_K_one hK 0 1 rfl rfl).symm
  have hK := hK.sub (tys' := [(cA2, .int)]) [0] rfl
  have hP : va_P D cls7 [(h0, .inr (1, [.ref q1, .ref q3, .null, .null, .null, .null, .null, .null, .int 0, .int 0, .int 0, .int 0, .int 0, .int 0, .int 0])), (q1, .inl (cA2, 8, .inl (fun _ => 0))), (q3, .inl (cA2, 8, .inl (fun _ => 0))), (q5, .inl (cA2, 8, .inl (fun _ => 0)))] H := hP
  have hD : va_D A [(h0, .inr (1, [.ref q1, .ref q3, .null, .null, .null, .null, .null, .null, .int 0, .int 0, .int 0, .int 0, .int 0, .int 0, .int 0])), (q1, .inl (cA2, 8, .inl (fun _ => 0))), (q3, .inl (cA2, 8, .inl (fun _ => 0))), (q5, .inl (cA2, 8, .inl (fun _ => 0)))] := hD
  refine W.widen (k := 3) (n := 24) (Nat.le_of_ble_eq_true rfl) (Nat.le_of_ble_eq_true rfl) ?_
  refine va_putF (D := D) (cl := cls7) (ci := 1) (C := RX1) (T := TX1) (N := 15) (v := .ref q5) hx hb hg ly_X1 tyX1 tyX1_ok nmX1 hown hK hP hD hS 0 rfl rfl 2 (by decide) (hg _ (fg_X1_18.link rfl)) (fun _ h9 => h9) rfl hin rfl (tyX1_ok 2 (by decide)) rfl rfl (Nat.le_of_ble_eq_true rfl) (kX1_init.at 13 rfl) (fun H locs hP hD hS => ?_)
  have hP : va_P D cls7 [(h0, .inr (1, [.ref q1, .ref q3, .ref q5, .null, .null, .null, .null, .null, .int 0, .int 0, .int 0, .int 0, .int 0, .int 0, .int 0])), (q1, .inl (cA2, 8, .inl (fun _ => 0))), (q3, .inl (cA2, 8, .inl (fun _ => 0))), (q5, .inl (cA2, 8, .inl (fun _ => 0)))] H := hP
  have hD : va_D A [(h0, .inr (1, [.ref q1, .ref q3, .ref q5, .null, .null, .null, .null, .null, .int 0, .int 0, .int 0, .int 0, .int 0, .int 0, .int 0])), (q1, .inl (cA2, 8, .inl (fun _ => 0))), (q3, .inl (cA2, 8, .inl (fun _ => 0))), (q5, .inl (cA2, 8, .inl (fun _ => 0)))] := hD
  refine lv_aload_n hx hb (kX1_init.at 14 rfl) rfl (lv_at hl 0 rfl) ?_
  refine lv_bipush (v := Int32.ofInt 16) hx hb (kX1_init.at 15 rfl) (by decide) ?_
  refine va_newa (D := D) (cl := cls7) (atype := .int) (ty := .int) (a0 := (16, .inl (fun _ => 0))) hx hb (hg _ w_ar) rfl hK hP hD hS hA (fun _ => rfl) (by decide) rfl (by decide) (Nat.le_of_ble_eq_true rfl) (Nat.le_of_ble_eq_true rfl) (kX1_init.at 16 rfl) (fun q7 cA8 H hK hP hD hS => ?_)
  obtain rfl : cA2 = cA8 := (va_K_one hK 0 1 rfl rfl).symm
  have hK := hK.sub (tys' := [(cA2, .int)]) [0] rfl
  have hP : va_P D cls7 [(h0, .inr (1, [.ref q1, .ref q3, .ref q5, .null, .null, .null, .null, .null, .int 0, .int 0, .int 0, .int 0, .int 0, .int 0, .int 0])), (q1, .inl (cA2, 8, .inl (fun _ => 0))), (q3, .inl (cA2, 8, .inl (fun _ => 0))), (q5, .inl (cA2, 8, .inl (fun _ => 0))), (q7, .inl (cA2, 16, .inl (fun _ => 0)))] H := hP
  have hD : va_D A [(h0, .inr (1, [.ref q1, .ref q3, .ref q5, .null, .null, .null, .null, .null, .int 0, .int 0, .int 0, .int 0, .int 0, .int 0, .int 0])), (q1, .inl (cA2, 8, .inl (fun _ => 0))), (q3, .inl (cA2, 8, .inl (fun _ => 0))), (q5, .inl (cA2, 8, .inl (fun _ => 0))), (q7, .inl (cA2, 16, .inl (fun _ => 0)))] := hD
  refine W.widen (k := 4) (n := 40) (Nat.le_of_ble_eq_true rfl) (Nat.le_of_ble_eq_true rfl) ?_
  refine va_putF (D := D) (cl := cls7) (ci := 1) (C := RX1) (T := TX1) (N := 15) (v := .ref q7) hx hb hg ly_X1 tyX1 tyX1_ok nmX1 hown hK hP hD hS 0 rfl rfl 3 (by decide) (hg _ (fg_X1_21.link rfl)) (fun _ h9 => h9) rfl hin rfl (tyX1_ok 3 (by decide)) rfl rfl (Nat.le_of_ble_eq_true rfl) (kX1_init.at 17 rfl) (fun H locs hP hD hS => ?_)
  have hP : va_P D cls7 [(h0, .inr (1, [.ref q1, .ref q3, .ref q5, .ref q7, .null, .null, .null, .null, .int 0, .int 0, .int 0, .int 0, .int 0, .int 0, .int 0])), (q1, .inl (cA2, 8, .inl (fun _ => 0))), (q3, .inl (cA2, 8, .inl (fun _ => 0))), (q5, .inl (cA2, 8, .inl (fun _ => 0))), (q7, .inl (cA2, 16, .inl (fun _ => 0)))] H := hP
  have hD : va_D A [(h0, .inr (1, [.ref q1, .ref q3, .ref q5, .ref q7, .null, .null, .null, .null, .int 0, .int 0, .int 0, .int 0, .int 0, .int 0, .int 0])), (q1, .inl (cA2, 8, .inl (fun _ => 0))), (q3, .inl (cA2, 8, .inl (fun _ => 0))), (q5, .inl (cA2, 8, .inl (fun _ => 0))), (q7, .inl (cA2, 16, .inl (fun _ => 0)))] := hD
  refine lv_aload_n hx hb (kX1_init.at 18 rfl) rfl (lv_at hl 0 rfl) ?_
  refine lv_bipush (v := Int32.ofInt 8) hx hb (kX1_init.at 19 rfl) (by decide) ?_
  refine va_newa (D := D) (cl := cls7) (atype := .int) (ty := .int) (a0 := (8, .inl (fun _ => 0))) hx hb (hg _ w_ar) rfl hK hP hD hS hA (fun _ => rfl) (by decide) rfl (by decide) (Nat.le_of_ble_eq_true rfl) (Nat.le_of_ble_eq_true rfl) (kX1_init.at 20 rfl) (fun q9 cA10 H hK hP hD hS => ?_)
  obtain rfl : cA2 = cA10 := (va_K_one hK 0 1 rfl rfl).symm
  have hK := hK.sub (tys' := [(cA2, .int)]) [0] rfl
  have hP : va_P D cls7 [(h0, .inr (1, [.ref q1, .ref q3, .ref q5, .ref q7, .null, .null, .null, .null, .int 0, .int 0, .int 0, .int 0, .int 0, .int 0, .int 0])), (q1, .inl (cA2, 8, .inl (fun _ => 0))), (q3, .inl (cA2, 8, .inl (fun _ => 0))), (q5, .inl (cA2, 8, .inl (fun _ => 0))), (q7, .inl (cA2, 16, .inl (fun _ => 0))), (q9, .inl (cA2, 8, .inl (fun _ => 0)))] H := hP
  have hD : va_D A [(h0, .inr (1, [.ref q1, .ref q3, .ref q5, .ref q7, .null, .null, .null, .null, .int 0, .int 0, .int 0, .int 0, .int 0, .int 0, .int 0])), (q1, .inl (cA2, 8, .inl (fun _ => 0))), (q3, .inl (cA2, 8, .inl (fun _ => 0))), (q5, .inl (cA2, 8, .inl (fun _ => 0))), (q7, .inl (cA2, 16, .inl (fun _ => 0))), (q9, .inl (cA2, 8, .inl (fun _ => 0)))] := hD
  refine W.widen (k := 5) (n := 48) (Nat.le_of_ble_eq_true rfl) (Nat.le_of_ble_eq_true rfl) ?_
  refine va_putF (D := D) (cl := cls7) (ci := 1) (C := RX1) (T := TX1) (N := 15) (v := .ref q9) hx hb hg ly_X1 tyX1 tyX1_ok nmX1 hown hK hP hD hS 0 rfl rfl 4 (by decide) (hg _ (fg_X1_24.link rfl)) (fun _ h9 => h9) rfl hin rfl (tyX1_ok 4 (by decide)) rfl rfl (Nat.le_of_ble_eq_true rfl) (kX1_init.at 21 rfl) (fun H locs hP hD hS => ?_)
  have hP : va_P D cls7 [(h0, .inr (1, [.ref q1, .ref q3, .ref q5, .ref q7, .ref q9, .null, .null, .null, .int 0, .int 0, .int 0, .int 0, .int 0, .int 0, .int 0])), (q1, .inl (cA2, 8, .inl (fun _ => 0))), (q3, .inl (cA2, 8, .inl (fun _ => 0))), (q5, .inl (cA2, 8, .inl (fun _ => 0))), (q7, .inl (cA2, 16, .inl (fun _ => 0))), (q9, .inl (cA2, 8, .inl (fun _ => 0)))] H := hP
  have hD : va_D A [(h0, .inr (1, [.ref q1, .ref q3, .ref q5, .ref q7, .ref q9, .null, .null, .null, .int 0, .int 0, .int 0, .int 0, .int 0, .int 0, .int 0])), (q1, .inl (cA2, 8, .inl (fun _ => 0))), (q3, .inl (cA2, 8, .inl (fun _ => 0))), (q5, .inl (cA2, 8, .inl (fun _ => 0))), (q7, .inl (cA2, 16, .inl (fun _ => 0))), (q9, .inl (cA2, 8, .inl (fun _ => 0)))] := hD
  refine lv_aload_n hx hb (kX1_init.at 22 rfl) rfl (lv_at hl 0 rfl) ?_
  refine lv_bipush (v := Int32.ofInt 8) hx hb (kX1_init.at 23 rfl) (by decide) ?_
  refine va_newa (D := D) (cl := cls7) (atype := .int) (ty := .int) (a0 := (8, .inl (fun _ => 0))) hx hb (hg _ w_ar) rfl hK hP hD hS hA (fun _ => rfl) (by decide) rfl (by decide) (Nat.le_of_ble_eq_true rfl) (Nat.le_of_ble_eq_true rfl) (kX1_init.at 24 rfl) (fun q11 cA12 H hK hP hD hS => ?_)
  obtain rfl : cA2 = cA12 := (va_K_one hK 0 1 rfl rfl).symm
  have hK := hK.sub (tys' := [(cA2, .int)]) [0] rfl
  have hP : va_P D cls7 [(h0, .inr (1, [.ref q1, .ref q3, .ref q5, .ref q7, .ref q9, .null, .null, .null, .int 0, .int 0, .int 0, .int 0, .int 0, .int 0, .int 0])), (q1, .inl (cA2, 8, .inl (fun _ => 0))), (q3, .inl (cA2, 8, .inl (fun _ => 0))), (q5, .inl (cA2, 8, .inl (fun _ => 0))), (q7, .inl (cA2, 16, .inl (fun _ => 0))), (q9, .inl (cA2, 8, .inl (fun _ => 0))), (q11, .inl (cA2, 8, .inl (fun _ => 0)))] H := hP
  have hD : va_D A [(h0, .inr (1, [.ref q1, .ref q3, .ref q5, .ref q7, .ref q9, .null, .null, .null, .int 0, .int 0, .int 0, .int 0, .int 0, .int 0, .int 0])), (q1, .inl (cA2, 8, .inl (fun _ => 0))), (q3, .inl (cA2, 8, .inl (fun _ => 0))), (q5, .inl (cA2, 8, .inl (fun _ => 0))), (q7, .inl (cA2, 16, .inl (fun _ => 0))), (q9, .inl (cA2, 8, .inl (fun _ => 0))), (q11, .inl (cA2, 8, .inl (fun _ => 0)))] := hD
  refine W.widen (k := 6) (n := 56) (Nat.le_of_ble_eq_true rfl) (Nat.le_of_ble_eq_true rfl) ?_
  refine va_putF (D := D) (cl := cls7) (ci := 1) (C := RX1) (T := TX1) (N := 15) (v := .ref q11) hx hb hg ly_X1 tyX1 tyX1_ok nmX1 hown hK hP hD hS 0 rfl rfl 5 (by decide) (hg _ (fg_X1_27.link rfl)) (fun _ h9 => h9) rfl hin rfl (tyX1_ok 5 (by decide)) rfl rfl (Nat.le_of_ble_eq_true rfl) (kX1_init.at 25 rfl) (fun H locs hP hD hS => ?_)
  have hP : va_P D cls7 [(h0, .inr (1, [.ref q1, .ref q3, .ref q5, .ref q7, .ref q9, .ref q11, .null, .null, .int 0, .int 0, .int 0, .int 0, .int 0, .int 0, .int 0])), (q1, .inl (cA2, 8, .inl (fun _ => 0))), (q3, .inl (cA2, 8, .inl (fun _ => 0))), (q5, .inl (cA2, 8, .inl (fun _ => 0))), (q7, .inl (cA2, 16, .inl (fun _ => 0))), (q9, .inl (cA2, 8, .inl (fun _ => 0))), (q11, .inl (cA2, 8, .inl (fun _ => 0)))] H := hP
  have hD : va_D A [(h0, .inr (1, [.ref q1, .ref q3, .ref q5, .ref q7, .ref q9, .ref q11, .null, .null, .int 0, .int 0, .int 0, .int 0, .int 0, .int 0, .int 0])), (q1, .inl (cA2, 8, .inl (fun _ => 0))), (q3, .inl (cA2, 8, .inl (fun _ => 0))), (q5, .inl (cA2, 8, .inl (fun _ => 0))), (q7, .inl (cA2, 16, .inl (fun _ => 0))), (q9, .inl (cA2, 8, .inl (fun _ => 0))), (q11, .inl (cA2, 8, .inl (fun _ => 0)))] := hD
  refine lv_aload_n hx hb (kX1_init.at 26 rfl) rfl (lv_at hl 0 rfl) ?_
  refine lv_bipush (v := Int32.ofInt 12) hx hb (kX1_init.at 27 rfl) (by decide) ?_
  refine va_newa (D := D) (cl := cls7) (atype := .int) (ty := .int) (a0 := (12, .inl (fun _ => 0))) hx hb (hg _ w_ar) rfl hK hP hD hS hA (fun _ => rfl) (by decide) rfl (by decide) (Nat.le_of_ble_eq_true rfl) (Nat.le_of_ble_eq_true rfl) (kX1_init.at 28 rfl) (fun q13 cA14 H hK hP hD hS => ?_)
  obtain rfl : cA2 = cA14 := (va_K_one hK 0 1 rfl rfl).symm
  have hK := hK.sub (tys' := [(cA2, .int)]) [0] rfl
  have hP : va_P D cls7 [(h0, .inr (1, [.ref q1, .ref q3, .ref q5, .ref q7, .ref q9, .ref q11, .null, .null, .int 0, .int 0, .int 0, .int 0, .int 0, .int 0, .int 0])), (q1, .inl (cA2, 8, .inl (fun _ => 0))), (q3, .inl (cA2, 8, .inl (fun _ => 0))), (q5, .inl (cA2, 8, .inl (fun _ => 0))), (q7, .inl (cA2, 16, .inl (fun _ => 0))), (q9, .inl (cA2, 8, .inl (fun _ => 0))), (q11, .inl (cA2, 8, .inl (fun _ => 0))), (q13, .inl (cA2, 12, .inl (fun _ => 0)))] H := hP
  have hD : va_D A [(h0, .inr (1, [.ref q1, .ref q3, .ref q5, .ref q7, .ref q9, .ref q11, .null, .null, .int 0, .int 0, .int 0, .int 0, .int 0, .int 0, .int 0])), (q1, .inl (cA2, 8, .inl (fun _ => 0))), (q3, .inl (cA2, 8, .inl (fun _ => 0))), (q5, .inl (cA2, 8, .inl (fun _ => 0))), (q7, .inl (cA2, 16, .inl (fun _ => 0))), (q9, .inl (cA2, 8, .inl (fun _ => 0))), (q11, .inl (cA2, 8, .inl (fun _ => 0))), (q13, .inl (cA2, 12, .inl (fun _ => 0)))] := hD
  refine W.widen (k := 7) (n := 68) (Nat.le_of_ble_eq_true rfl) (Nat.le_of_ble_eq_true rfl) ?_
  refine va_putF (D := D) (cl := cls7) (ci := 1) (C := RX1) (T := TX1) (N := 15) (v := .ref q13) hx hb hg ly_X1 tyX1 tyX1_ok nmX1 hown hK hP hD hS 0 rfl rfl 6 (by decide) (hg _ (fg_X1_30.link rfl)) (fun _ h9 => h9) rfl hin rfl (tyX1_ok 6 (by decide)) rfl rfl (Nat.le_of_ble_eq_true rfl) (kX1_init.at 29 rfl) (fun H locs hP hD hS => ?_)
  have hP : va_P D cls7 [(h0, .inr (1, [.ref q1, .ref q3, .ref q5, .ref q7, .ref q9, .ref q11, .ref q13, .null, .int 0, .int 0, .int 0, .int 0, .int 0, .int 0, .int 0])), (q1, .inl (cA2, 8, .inl (fun _ => 0))), (q3, .inl (cA2, 8, .inl (fun _ => 0))), (q5, .inl (cA2, 8, .inl (fun _ => 0))), (q7, .inl (cA2, 16, .inl (fun _ => 0))), (q9, .inl (cA2, 8, .inl (fun _ => 0))), (q11, .inl (cA2, 8, .inl (fun _ => 0))), (q13, .inl (cA2, 12, .inl (fun _ => 0)))] H := hP
  have hD : va_D A [(h0, .inr (1, [.ref q1, .ref q3, .ref q5, .ref q7, .ref q9, .ref q11, .ref q13, .null, .int 0, .int 0, .int 0, .int 0, .int 0, .int 0, .int 0])), (q1, .inl (cA2, 8, .inl (fun _ => 0))), (q3, .inl (cA2, 8, .inl (fun _ => 0))), (q5, .inl (cA2, 8, .inl (fun _ => 0))), (q7, .inl (cA2, 16, .inl (fun _ => 0))), (q9, .inl (cA2, 8, .inl (fun _ => 0))), (q11, .inl (cA2, 8, .inl (fun _ => 0))), (q13, .inl (cA2, 12, .inl (fun _ => 0)))] := hD
  refine lv_aload_n hx hb (kX1_init.at 30 rfl) rfl (lv_at hl 0 rfl) ?_
  refine lv_sipush (v := Int32.ofInt 128) hx hb (kX1_init.at 31 rfl) (by decide) ?_
  refine va_newa (D := D) (cl := cls7) (atype := .int) (ty := .int) (a0 := (128, .inl (fun _ => 0))) hx hb (hg _ w_ar) rfl hK hP hD hS hA (fun _ => rfl) (by decide) rfl (by decide) (Nat.le_of_ble_eq_true rfl) (Nat.le_of_ble_eq_true rfl) (kX1_init.at 32 rfl) (fun q15 cA16 H hK hP hD hS => ?_)
  obtain rfl : cA2 = cA16 := (va_K_one hK 0 1 rfl rfl).symm
  have hK := hK.sub (tys' := [(cA2, .int)]) [0] rfl
  have hP : va_P D cls7 [(h0, .inr (1, [.ref q1, .ref q3, .ref q5, .ref q7, .ref q9, .ref q11, .ref q13, .null, .int 0, .int 0, .int 0, .int 0, .int 0, .int 0, .int 0])), (q1, .inl (cA2, 8, .inl (fun _ => 0))), (q3, .inl (cA2, 8, .inl (fun _ => 0))), (q5, .inl (cA2, 8, .inl (fun _ => 0))), (q7, .inl (cA2, 16, .inl (fun _ => 0))), (q9, .inl (cA2, 8, .inl (fun _ => 0))), (q11, .inl (cA2, 8, .inl (fun _ => 0))), (q13, .inl (cA2, 12, .inl (fun _ => 0))), (q15, .inl (cA2, 128, .inl (fun _ => 0)))] H := hP
  have hD : va_D A [(h0, .inr (1, [.ref q1, .ref q3, .ref q5, .ref q7, .ref q9, .ref q11, .ref q13, .null, .int 0, .int 0, .int 0, .int 0, .int 0, .int 0, .int 0])), (q1, .inl (cA2, 8, .inl (fun _ => 0))), (q3, .inl (cA2, 8, .inl (fun _ => 0))), (q5, .inl (cA2, 8, .inl (fun _ => 0))), (q7, .inl (cA2, 16, .inl (fun _ => 0))), (q9, .inl (cA2, 8, .inl (fun _ => 0))), (q11, .inl (cA2, 8, .inl (fun _ => 0))), (q13, .inl (cA2, 12, .inl (fun _ => 0))), (q15, .inl (cA2, 128, .inl (fun _ => 0)))] := hD
  refine W.widen (k := 8) (n := 196) (Nat.le_of_ble_eq_true rfl) (Nat.le_of_ble_eq_true rfl) ?_
  refine va_putF (D := D) (cl := cls7) (ci := 1) (C := RX1) (T := TX1) (N := 15) (v := .ref q15) hx hb hg ly_X1 tyX1 tyX1_ok nmX1 hown hK hP hD hS 0 rfl rfl 7 (by decide) (hg _ (fg_X1_33.link rfl)) (fun _ h9 => h9) rfl hin rfl (tyX1_ok 7 (by decide)) rfl rfl (Nat.le_of_ble_eq_true rfl) (kX1_init.at 33 rfl) (fun H locs hP hD hS => ?_)
  have hP : va_P D cls7 [(h0, .inr (1, [.ref q1, .ref q3, .ref q5, .ref q7, .ref q9, .ref q11, .ref q13, .ref q15, .int 0, .int 0, .int 0, .int 0, .int 0, .int 0, .int 0])), (q1, .inl (cA2, 8, .inl (fun _ => 0))), (q3, .inl (cA2, 8, .inl (fun _ => 0))), (q5, .inl (cA2, 8, .inl (fun _ => 0))), (q7, .inl (cA2, 16, .inl (fun _ => 0))), (q9, .inl (cA2, 8, .inl (fun _ => 0))), (q11, .inl (cA2, 8, .inl (fun _ => 0))), (q13, .inl (cA2, 12, .inl (fun _ => 0))), (q15, .inl (cA2, 128, .inl (fun _ => 0)))] H := hP
  have hD : va_D A [(h0, .inr (1, [.ref q1, .ref q3, .ref q5, .ref q7, .ref q9, .ref q11, .ref q13, .ref q15, .int 0, .int 0, .int 0, .int 0, .int 0, .int 0, .int 0])), (q1, .inl (cA2, 8, .inl (fun _ => 0))), (q3, .inl (cA2, 8, .inl (fun _ => 0))), (q5, .inl (cA2, 8, .inl (fun _ => 0))), (q7, .inl (cA2, 16, .inl (fun _ => 0))), (q9, .inl (cA2, 8, .inl (fun _ => 0))), (q11, .inl (cA2, 8, .inl (fun _ => 0))), (q13, .inl (cA2, 12, .inl (fun _ => 0))), (q15, .inl (cA2, 128, .inl (fun _ => 0)))] := hD
  refine lv_aload_n hx hb (kX1_init.at 34 rfl) rfl (lv_at hl 0 rfl) ?_
  refine lv_iconst (v := Int32.ofInt (-1)) hx hb (kX1_init.at 35 rfl) (by decide) ?_
  refine va_put (D := D) (cl := cls7) (ci := 1) (C := RX1) (T := TX1) (N := 15) (v := .int (Int32.ofInt (-1))) hx hb hg ly_X1 tyX1 tyX1_ok nmX1 hown hK hP hD hS 0 rfl rfl 12 (by decide) (hg _ (fg_X1_36.link rfl)) (fun _ h9 => h9) rfl (tyX1_ok 12 (by decide)) rfl rfl (Nat.le_of_ble_eq_true rfl) (kX1_init.at 36 rfl) (fun H locs hP hD hS => ?_)
  have hP : va_P D cls7 [(h0, .inr (1, [.ref q1, .ref q3, .ref q5, .ref q7, .ref q9, .ref q11, .ref q13, .ref q15, .int 0, .int 0, .int 0, .int 0, .int (Int32.ofInt (-1)), .int 0, .int 0])), (q1, .inl (cA2, 8, .inl (fun _ => 0))), (q3, .inl (cA2, 8, .inl (fun _ => 0))), (q5, .inl (cA2, 8, .inl (fun _ => 0))), (q7, .inl (cA2, 16, .inl (fun _ => 0))), (q9, .inl (cA2, 8, .inl (fun _ => 0))), (q11, .inl (cA2, 8, .inl (fun _ => 0))), (q13, .inl (cA2, 12, .inl (fun _ => 0))), (q15, .inl (cA2, 128, .inl (fun _ => 0)))] H := hP
  have hD : va_D A [(h0, .inr (1, [.ref q1, .ref q3, .ref q5, .ref q7, .ref q9, .ref q11, .ref q13, .ref q15, .int 0, .int 0, .int 0, .int 0, .int (Int32.ofInt (-1)), .int 0, .int 0])), (q1, .inl (cA2, 8, .inl (fun _ => 0))), (q3, .inl (cA2, 8, .inl (fun _ => 0))), (q5, .inl (cA2, 8, .inl (fun _ => 0))), (q7, .inl (cA2, 16, .inl (fun _ => 0))), (q9, .inl (cA2, 8, .inl (fun _ => 0))), (q11, .inl (cA2, 8, .inl (fun _ => 0))), (q13, .inl (cA2, 12, .inl (fun _ => 0))), (q15, .inl (cA2, 128, .inl (fun _ => 0)))] := hD
  refine lv_aload_n hx hb (kX1_init.at 37 rfl) rfl (lv_at hl 0 rfl) ?_
  refine lv_iconst (v := Int32.ofInt (-1)) hx hb (kX1_init.at 38 rfl) (by decide) ?_
  refine va_put (D := D) (cl := cls7) (ci := 1) (C := RX1) (T := TX1) (N := 15) (v := .int (Int32.ofInt (-1))) hx hb hg ly_X1 tyX1 tyX1_ok nmX1 hown hK hP hD hS 0 rfl rfl 13 (by decide) (hg _ (fg_X1_40.link rfl)) (fun _ h9 => h9) rfl (tyX1_ok 13 (by decide)) rfl rfl (Nat.le_of_ble_eq_true rfl) (kX1_init.at 39 rfl) (fun H locs hP hD hS => ?_)
  have hP : va_P D cls7 [(h0, .inr (1, [.ref q1, .ref q3, .ref q5, .ref q7, .ref q9, .ref q11, .ref q13, .ref q15, .int 0, .int 0, .int 0, .int 0, .int (Int32.ofInt (-1)), .int (Int32.ofInt (-1)), .int 0])), (q1, .inl (cA2, 8, .inl (fun _ => 0))), (q3, .inl (cA2, 8, .inl (fun _ => 0))), (q5, .inl (cA2, 8, .inl (fun _ => 0))), (q7, .inl (cA2, 16, .inl (fun _ => 0))), (q9, .inl (cA2, 8, .inl (fun _ => 0))), (q11, .inl (cA2, 8, .inl (fun _ => 0))), (q13, .inl (cA2, 12, .inl (fun _ => 0))), (q15, .inl (cA2, 128, .inl (fun _ => 0)))] H := hP
  have hD : va_D A [(h0, .inr (1, [.ref q1, .ref q3, .ref q5, .ref q7, .ref q9, .ref q11, .ref q13, .ref q15, .int 0, .int 0, .int 0, .int 0, .int (Int32.ofInt (-1)), .int (Int32.ofInt (-1)), .int 0])), (q1, .inl (cA2, 8, .inl (fun _ => 0))), (q3, .inl (cA2, 8, .inl (fun _ => 0))), (q5, .inl (cA2, 8, .inl (fun _ => 0))), (q7, .inl (cA2, 16, .inl (fun _ => 0))), (q9, .inl (cA2, 8, .inl (fun _ => 0))), (q11, .inl (cA2, 8, .inl (fun _ => 0))), (q13, .inl (cA2, 12, .inl (fun _ => 0))), (q15, .inl (cA2, 128, .inl (fun _ => 0)))] := hD
  exact W.vret hx hb hr (fun t ht hW => ⟨⟨(), rfl, trivial, cA2, q1, q3, q5, q7, q9, q11, q13, q15, by rw [ht]; exact hP, va_K.moved hW.alike hK, hD⟩, hS.F ht⟩) hS.2.2 (kX1_init.at 40 rfl) hlocks
