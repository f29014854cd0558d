/-! ===== rows for fields, arrays, calls, returns ===== -/
section HRows
variable {G : GT} {own : String} {cc : ByteArray} {nL : Nat} {ret : Option FieldType} {X : XT} {pc : Nat} {ls ls' : List (Nat × AV)} {st : List AV} {M : Mem} {x y : Int}
theorem a_getR {idx k ci i j : Nat} (hd : decode cc pc = .ok (.getfield idx, 3)) (hf : FG own idx ci i) (hr : isR k ci i j) (kk : AW G own cc nL ret X (pc + 3) ls (vR j :: st) M) : AW G own cc nL ret X pc ls (vR k :: st) M := by
  obtain ⟨C0, T, N, hc, hi, hin, hlink⟩ := hf
  obtain ⟨fs, hlay, hfs⟩ := hr
  intro hM hl hs p e s m args below meth c C H locs hP hS la hla
  have w := kk hM hl (okS.cons (v := vR j) trivial hs.tl) p e s m args below meth c C H locs hP hS la hla
  obtain ⟨hx, hb, -, -, hown, hts, -, hK, -⟩ := C
  exact va_get (D := G.2.1) (ci := ci) (C := C0) (T := T) (N := N) hx hb hts hin hown hK hP k (wd_at hlay) hc i hi (hts _ hlink) (fun _ h => h) (fld_at hfs) hd w
theorem a_getI {idx k ci i : Nat} (hd : decode cc pc = .ok (.getfield idx, 3)) (hf : FG own idx ci i) (hr : isI k ci i) (hv : M k (i : Int) = x) (kk : AW G own cc nL ret X (pc + 3) ls (vI x :: st) M) : AW G own cc nL ret X pc ls (vR k :: st) M := by
  obtain ⟨C0, T, N, hc, hi, hin, hlink⟩ := hf
  obtain ⟨fs, hlay, hfs⟩ := hr
  subst hv
  intro hM hl hs p e s m args below meth c C H locs hP hS la hla
  have w := kk hM hl (okS.cI (hM k i) hs.tl) p e s m args below meth c C H locs hP hS la hla
  obtain ⟨hx, hb, -, -, hown, hts, -, hK, -⟩ := C
  exact va_get (D := G.2.1) (ci := ci) (C := C0) (T := T) (N := N) hx hb hts hin hown hK hP k (wd_at hlay) hc i hi (hts _ hlink) (fun _ h => h) (fld_at hfs) hd w
theorem cell_ne {σ : Nat → Nat} {cA cR : ClassId} {k n : Nat} {f : Int → Int} {z : LC} (h : n ≠ k) : cellE cA cR σ (upc M k f) n z = cellE cA cR σ M n z := by
  rcases z with a | ⟨ci, fs⟩ | rs
  · unfold cellE
    simp only [upc_ne h]
  · show Sum.inr (ci, List.map (cellF σ (upc M k f) n) fs.zipIdx) = Sum.inr (ci, List.map (cellF σ M n) fs.zipIdx)
    rw [List.map_congr_left (g := cellF σ M n) fun q _ => ?_]
    unfold cellF
    simp only [upc_ne h]
  · rfl
/-- a world in which one cell is another -/
theorem wd_set {k : Nat} {f : Int → Int} {z : LC} {e1 : va_E} (hz : layL[k]? = some z) (he : cellE G.2.2.2.1 G.2.2.2.2 G.2.2.1 (upc M k f) k z = e1) : (wd G M).set k (G.2.2.1 k, e1) = wd G (upc M k f) := by
  have hl : k < (wd G M).length := (List.getElem?_eq_some_iff.mp (wd_at (G := G) (M := M) hz)).1
  refine List.ext_getElem? fun n => ?_
  by_cases h : n = k
  · subst h
    rw [List.getElem?_set_self hl, wd_at hz, he]
  · rw [List.getElem?_set_ne (Ne.symm h)]
    cases hn : layL[n]? with
    | none => simp [wd, hn]
    | some z1 => rw [wd_at hn, wd_at hn, cell_ne h]
theorem fld_set {σ : Nat → Nat} {k i : Nat} {v : Int} {fs : List (Option Nat)} (hfs : fs[i]? = some none) : fs.zipIdx.map (cellF σ (upm M k i v) k) = (fs.zipIdx.map (cellF σ M k)).set i (.int (Int32.ofInt v)) := by
  have hi : i < fs.length := (List.getElem?_eq_some_iff.mp hfs).1
  refine List.ext_getElem? fun n => ?_
  by_cases h : n = i
  · subst h
    rw [fld_at hfs, List.getElem?_set_self (by simpa using hi)]
    unfold cellF
    simp only [upm_same, ups_same]
  · rw [List.getElem?_set_ne (Ne.symm h)]
    cases hn : fs[n]? with
    | none => simp [hn]
    | some r =>
      rw [fld_at hn, fld_at hn]
      unfold cellF
      have h2 : ((n : Nat) : Int) ≠ (i : Int) := by omega
      simp only [upm_same, ups_ne h2]
theorem AW.put {idx k ci i : Nat} {ty : FieldType} (hd : decode cc pc = .ok (.putfield idx, 3)) (hf : FP own idx ci i ty) (hr : isI k ci i) (hn : narrow ty (.int (Int32.ofInt x)) = .int (Int32.ofInt x)) (hfit : fits ty (.int (Int32.ofInt x)) = true) (kk : AW G own cc nL ret X (pc + 3) ls st (upm M k i x)) : AW G own cc nL ret X pc ls (vI x :: vR k :: st) M := by
  obtain ⟨C0, T, N, hc, hi, hin, hlink, hfin, hty, ⟨t0, ht0⟩, hnm⟩ := hf
  obtain ⟨fs, hlay, hfs⟩ := hr
  intro hM hl hs p e s m args below meth c C H locs hP hS la hla
  have w := kk (hM.up hs.hI) hl hs.tl.tl p e s m args below meth c C
  obtain ⟨hx, hb, -, -, hown, hts, -, hK, hD, -⟩ := C
  refine va_put (D := G.2.1) (ci := ci) (C := C0) (T := T) (N := N) hx hb hts hin t0 ht0 hnm hown hK hP (hD.to M) hS k (wd_at hlay) hc i hi (hts _ hlink) (fun _ h => h) hfin hty hn hfit ?_ hd (fun H1 locs1 hP1 hD1 hS1 => ?_)
  · have := (List.getElem?_eq_some_iff.mp hfs).1
    simpa using this
  · refine w H1 locs1 ?_ hS1 la hla
    rw [wd_set (f := ups (M k) i x) hlay (by
      show Sum.inr (ci, fs.zipIdx.map (cellF G.2.2.1 (upm M k i x) k)) = _
      rw [fld_set hfs]
      rfl)] at hP1
    exact hP1
theorem a_putI {idx k ci i : Nat} {j : Int} (hd : decode cc pc = .ok (.putfield idx, 3)) (hf : FP own idx ci i .int) (hr : isI k ci i) (hj : ((i : Nat) : Int) = j) (kk : AW G own cc nL ret X (pc + 3) ls st (upm M k j x)) : AW G own cc nL ret X pc ls (vI x :: vR k :: st) M := by
  subst hj
  exact AW.put hd hf hr rfl rfl kk
theorem a_putZ {idx k ci i : Nat} {j : Int} (hd : decode cc pc = .ok (.putfield idx, 3)) (hf : FP own idx ci i .boolean) (hr : isI k ci i) (hj : ((i : Nat) : Int) = j) (h01 : x = 0 ∨ x = 1) (kk : AW G own cc nL ret X (pc + 3) ls st (upm M k j x)) : AW G own cc nL ret X pc ls (vI x :: vR k :: st) M := by
  subst hj
  rcases h01 with rfl | rfl
  · exact AW.put hd hf hr (by decide) (by decide) kk
  · exact AW.put hd hf hr (by decide) (by decide) kk
theorem vp_inZ {n : Nat} {i : Int} (hi : inI i) (h0 : 0 ≤ i) (h1 : i < n) : vp_in (Int32.ofInt i) n := by
  intro h
  rcases h with h | h
  · have := (i32_lt0 hi).mp h; omega
  · rw [i32_nat hi] at h; omega
theorem a_iald {k n : Nat} {i : Int} (hd : decode cc pc = .ok (.iaload, 1)) (hA : isA k n) (h : 0 ≤ i ∧ i < n) (hv : M k i = x) (kk : AW G own cc nL ret X (pc + 1) ls (vI x :: st) M) : AW G own cc nL ret X pc ls (vI i :: vR k :: st) M := by
  subst hv
  intro hM hl hs p e s m args below meth c C H locs hP hS la hla
  have w := kk hM hl (okS.cI (hM k i) hs.tl.tl) p e s m args below meth c C H locs hP hS la hla
  obtain ⟨hx, hb, -, -, -, -, -, hK, -⟩ := C
  refine va_iald (D := G.2.1) hx hb hK hP k 0 (wd_at hA) rfl (vp_inZ hs.hI h.1 h.2) hd ?_
  rw [i32_nat hs.hI, Int.toNat_of_nonneg h.1]
  exact w
theorem a_iast {k n : Nat} {i : Int} (hd : decode cc pc = .ok (.iastore, 1)) (hA : isA k n) (h : 0 ≤ i ∧ i < n) (kk : AW G own cc nL ret X (pc + 1) ls st (upm M k i x)) : AW G own cc nL ret X pc ls (vI x :: vI i :: vR k :: st) M := by
  intro hM hl hs p e s m args below meth c C H locs hP hS la hla
  have w := kk (hM.up hs.hI) hl hs.tl.tl.tl p e s m args below meth c C
  obtain ⟨hx, hb, -, -, -, -, -, hK, hD, -⟩ := C
  refine va_iast (D := G.2.1) hx hb hK hP (hD.to M) hS k 0 (wd_at hA) rfl (vp_inZ hs.hI2 h.1 h.2) hd (fun H1 locs1 hP1 hD1 hS1 => ?_)
  refine w H1 locs1 ?_ hS1 la hla
  rw [wd_set (f := ups (M k) i x) hA (by
    show Sum.inl (G.2.2.2.1, n, Sum.inl (fun j : Nat => Int32.ofInt (upm M k i x k (j : Int)))) = _
    congr 3
    rw [i32_nat hs.hI2]
    congr 1
    funext j
    rw [upm_same]
    unfold upd ups
    by_cases hj : j = i.toNat
    · rw [if_pos hj, if_pos (by omega)]
    · rw [if_neg hj, if_neg (by omega)])] at hP1
  exact hP1
theorem a_aald {k j : Nat} {rs : List Nat} {i : Int} (hd : decode cc pc = .ok (.aaload, 1)) (hA : layL[k]? = some (.inr (.inr rs))) (h0 : 0 ≤ i) (hj : rs[i.toNat]? = some j) (kk : AW G own cc nL ret X (pc + 1) ls (vR j :: st) M) : AW G own cc nL ret X pc ls (vI i :: vR k :: st) M := by
  intro hM hl hs p e s m args below meth c C H locs hP hS la hla
  have w := kk hM hl (okS.cons (v := vR j) trivial hs.tl.tl) p e s m args below meth c C H locs hP hS la hla
  obtain ⟨hx, hb, -, -, -, -, -, hK, -⟩ := C
  have hlt := (List.getElem?_eq_some_iff.mp hj).1
  refine va_aldq (D := G.2.1) (C := "PartingMap$Row") hx hb hK hP k 1 (wd_at hA) rfl (vp_inZ hs.hI h0 (by omega)) hd ?_
  rw [i32_nat hs.hI, hj]
  exact w
theorem a_alen {k n : Nat} (hd : decode cc pc = .ok (.arraylength, 1)) (hA : isA k n) (hn : inI (n : Int)) (kk : AW G own cc nL ret X (pc + 1) ls (vI (n : Int) :: st) M) : AW G own cc nL ret X pc ls (vR k :: st) M := by
  intro hM hl hs p e s m args below meth c C H locs hP hS la hla
  have w := kk hM hl (okS.cI hn hs.tl) p e s m args below meth c C H locs hP hS la hla
  obtain ⟨hx, hb, -, -, -, -, -, hK, -⟩ := C
  exact va_alen (D := G.2.1) hx hb hK hP k 0 (wd_at hA) (ty := .int) rfl (v := Int32.ofInt (n : Int)) (by rw [Int32.ofInt_eq_ofNat]) hd w
-- calls
theorem AW.ofRun {Post' : Option AV → Mem → Prop} {st0 : List AV} {a : Array Value} (hst : okS st0 → okS st)
    (run : okM M → okS st0 → ∀ (p : Program) (e : Env) (s : State) (m : MethodId) (args : Array Value) (below : List Frame) (meth : Method) (c : Code), Cx G own cc nL ret X p s m args meth c → ∀ (H : Heap) (locs : List Loc), HP G M H → va_S (X.2.1 s) s.heap H locs → ∀ la : Array Slot, lv_has la nL (gL G.2.2.1 ls) →
      va_Run p G.1 e X.1.1 s m args below meth c H locs X.1.2.1 X.1.2.2 0 0 (F0 m pc la (gS G.2.2.1 st0)) (gS G.2.2.1 st) (QC G Post' a) (AS G))
    (kk : ∀ (r : Option AV) (M' : Mem), Post' r M' → AW G own cc nL ret X (pc + 3) ls (r.toList ++ st) M') : AW G own cc nL ret X pc ls st0 M := by
  intro hM hl hs p e s m args below meth c C H locs hP hS la hla T hT X0
  obtain ⟨v, st₀, t, T', L, h0, X', hL, e1, e2, ⟨⟨r, M', hv, hp, hokM, hokr, hP'⟩, hz, hk⟩, stp⟩ := run hM hs p e s m args below meth c C H locs hP hS la hla T hT X0
  have hv' : v = r.map (gV G.2.2.1) := Outcome.returned.inj hv
  subst hv'
  have hA : ∀ q, AS G q → X.2.1 s q := fun q ⟨k, hk, e⟩ => by
    rw [e]
    exact C.2.2.2.2.2.2.2.2.1.2 k hk
  rw [h0] at hz hk
  have hS1 : va_S (X.2.1 s) s.heap T'.heap (locs ++ L) := ⟨Nat.le_trans hS.1 (by rw [e1]; exact hz), fun q h1 h2 => by
      rw [e1, hk q (Nat.lt_of_lt_of_le h1 hS.1) (fun z => h2 (hA q z))]
      exact hS.2.1 q h1 h2, fun q hq => by
      rcases List.mem_append.mp hq with h | h
      · exact hS.2.2 q h
      · exact hA _ (hL q h)⟩
  have hst2 : okS (r.toList ++ st) := fun q hq => by
    rcases List.mem_append.mp hq with h | h
    · cases r with
      | none => cases h
      | some w =>
        have : q = w := by simpa using h
        exact this ▸ hokr w rfl
    · exact hst hs q h
  obtain ⟨t2, a1, b1⟩ := kk r M' hp hokM hl hst2 p e s m args below meth c C T'.heap (locs ++ L) (by rw [e1]; exact hP') hS1 la hla T' rfl X'
  refine ⟨t2, stp t2 ?_, b1⟩
  have he : gS G.2.2.1 (r.toList ++ st) = (r.map (gV G.2.2.1)).toList ++ gS G.2.2.1 st := by cases r <;> rfl
  rw [he] at a1
  exact a1
theorem PC.blind {as : List AV} : FrameBlind (PC G M as) := fun a U g mk q => by
  obtain ⟨q0, qP, qK, qD, qN⟩ := q
  exact ⟨q0, qP, va_K.moved (u := U) (U := U.calling g mk a) (Vm.Alike.refl U.vm) qK, qD, qN.same rfl⟩
theorem gS_rev {σ : Nat → Nat} {as : List AV} {v : AV} {S : List AV} (h : S = as.reverse ++ v :: st) : gS σ S = (gS σ as).reverse ++ gV σ v :: gS σ st := by
  rw [h]
  unfold gS
  rw [List.map_append, List.map_reverse]
  rfl
theorem gS_rev0 {σ : Nat → Nat} {as : List AV} {S : List AV} (h : S = as.reverse ++ st) : gS σ S = (gS σ as).reverse ++ gS σ st := by
  rw [h]
  unfold gS
  rw [List.map_append, List.map_reverse]
theorem AW.callV {idx k ci n lev' nL' : Nat} {y : MethodName} {cc' : ByteArray} {ret' : Option FieldType} {as S : List AV} {q : vw_C} {Post' : Option AV → Mem → Prop} (hd : decode cc pc = .ok (.invokevirtual idx, 3)) (hl : Cond.methodLink own idx y ∈ gw) (hs : SV y cc' nL' ret' n) (ho : isO k ci) (hc : cls7[ci]? = some q) (hq : q.1 = y.cls)
    (hR : (rmL lev').frames + 1 ≤ X.1.1.frames ∧ 8 + (nL' + 11) + (rmL lev').locals ≤ X.1.1.locals) (hX : X.1.2.1 + 0 ≤ X.1.1.cells ∧ X.1.2.2 + 0 ≤ X.1.1.slots) (hn : as.length = n) (hS : S = as.reverse ++ vR k :: st) (h8 : catS st ≤ 8) (hA : AM G y cc' nL' ret' lev' M (vR k :: as) Post')
    (kk : ∀ (r : Option AV) (M' : Mem), Post' r M' → AW G own cc nL ret X (pc + 3) ls (r.toList ++ st) M') : AW G own cc nL ret X pc ls S M := by
  obtain ⟨⟨hs1, hs2, hs3, hs4, hs5, hs6⟩, hs7, hs8⟩ := hs
  refine AW.ofRun (Post' := Post') (a := (Value.ref (G.2.2.1 k) :: gS G.2.2.1 as).toArray) (st := st) (fun h v hv => h v (by rw [hS]; exact List.mem_append_right _ (List.mem_cons_of_mem _ hv))) ?_ kk
  intro hM hoS p e s m args below meth c C H locs hP hSS la hla
  have hMet := hA hM (okS.cons (v := vR k) trivial fun v hv => hoS v (by rw [hS]; exact List.mem_append_left _ (List.mem_reverse.mpr hv)))
  obtain ⟨hx, hb, -, hml, hown, hts, -, hK, hD, hN, -⟩ := C
  obtain ⟨fs, hlay⟩ := ho
  have hG : GoodIn gw (wsV own idx y.cls y (.code y cc' nL' ret' :: gw)) := fun w hw => by
    refine gw_good w ?_
    simp only [wsV, List.cons_append, List.nil_append, List.mem_cons] at hw
    rcases hw with rfl | rfl | rfl | rfl | rfl | hw
    · exact hl
    · exact hs7
    · exact hs8
    · exact hs2
    · exact hs1
    · exact hw
  refine va_runV (C := y.cls) (b := G.2.2.1 k) (As := gS G.2.2.1 as) (rest := gS G.2.2.1 st) ⟨hx, hb, hml, hown, hts⟩ hMet (cwV (ws' := gw) n hts hG rfl rfl rfl ⟨rfl, hs3, hs4, hs5⟩ hR) ⟨PC.blind, ?_, fun U hU hW => ⟨rfl, ?_, va_K.moved hW.alike hK, hD.own, hN.warm hW⟩⟩ rfl (by unfold gS; rw [List.length_map]; exact hn) hla.1 (gS_rev hS) (lv_room (by rw [catS_ok]; exact h8)) hd hX
  · have h1 := va_recv hK hP hc (wd_at hlay)
    rw [hq] at h1
    exact h1
  · rw [hU]; exact hP
theorem AW.callS {idx n lev' nL' : Nat} {y : MethodName} {cc' : ByteArray} {ret' : Option FieldType} {as S : List AV} {Post' : Option AV → Mem → Prop} (hd : decode cc pc = .ok (.invokestatic idx, 3)) (hl : Cond.methodLink own idx y ∈ gw) (hs : SS y cc' nL' ret' n)
    (hR : (rmL lev').frames + 1 ≤ X.1.1.frames ∧ 8 + (nL' + 11) + (rmL lev').locals ≤ X.1.1.locals) (hX : X.1.2.1 + 0 ≤ X.1.1.cells ∧ X.1.2.2 + 0 ≤ X.1.1.slots) (hn : as.length = n) (hS : S = as.reverse ++ st) (h8 : catS st ≤ 8) (hA : AM G y cc' nL' ret' lev' M as Post')
    (kk : ∀ (r : Option AV) (M' : Mem), Post' r M' → AW G own cc nL ret X (pc + 3) ls (r.toList ++ st) M') : AW G own cc nL ret X pc ls S M := by
  obtain ⟨⟨hs1, hs2, hs3, hs4, hs5, hs6⟩, hs7⟩ := hs
  refine AW.ofRun (Post' := Post') (a := (gS G.2.2.1 as).toArray) (st := st) (fun h v hv => h v (by rw [hS]; exact List.mem_append_right _ hv)) ?_ kk
  intro hM hoS p e s m args below meth c C H locs hP hSS la hla
  have hMet := hA hM (fun v hv => hoS v (by rw [hS]; exact List.mem_append_left _ (List.mem_reverse.mpr hv)))
  obtain ⟨hx, hb, -, hml, hown, hts, -, hK, hD, hN, -⟩ := C
  have hG : GoodIn gw (va_wsS own idx y (.code y cc' nL' ret' :: gw)) := fun w hw => by
    refine gw_good w ?_
    simp only [va_wsS, List.cons_append, List.nil_append, List.mem_cons] at hw
    rcases hw with rfl | rfl | rfl | rfl | hw
    · exact hl
    · exact hs7
    · exact hs2
    · exact hs1
    · exact hw
  exact va_runS (As := gS G.2.2.1 as) (rest := gS G.2.2.1 st) ⟨hx, hb, hml, hown, hts⟩ hMet (va_cwS (ws' := gw) n hts hG rfl rfl rfl ⟨hs3, hs4, hs5⟩ hR) ⟨PC.blind, fun U hU hW => ⟨rfl, by rw [hU]; exact hP, va_K.moved hW.alike hK, hD.own, hN.warm hW⟩⟩ rfl (by unfold gS; rw [List.length_map]; exact hn) hla.1 (gS_rev0 hS) (lv_room (by rw [catS_ok]; exact h8)) hd hX
theorem AW.callSN {idx n lev' nL' : Nat} {host : String} {y : MethodName} {cc' : ByteArray} {ret' : Option FieldType} {as S : List AV} {Post' : Option AV → Mem → Prop} (hd : decode cc pc = .ok (.invokestatic idx, 3)) (hl : ∀ s, NW s → va_Nw (.methodLinkNest own idx y host) s) (hs : SS y cc' nL' ret' n)
    (hR : (rmL lev').frames + 1 ≤ X.1.1.frames ∧ 8 + (nL' + 11) + (rmL lev').locals ≤ X.1.1.locals) (hX : X.1.2.1 + 0 ≤ X.1.1.cells ∧ X.1.2.2 + 0 ≤ X.1.1.slots) (hn : as.length = n) (hS : S = as.reverse ++ st) (h8 : catS st ≤ 8) (hA : AM G y cc' nL' ret' lev' M as Post')
    (kk : ∀ (r : Option AV) (M' : Mem), Post' r M' → AW G own cc nL ret X (pc + 3) ls (r.toList ++ st) M') : AW G own cc nL ret X pc ls S M := by
  obtain ⟨⟨hs1, hs2, hs3, hs4, hs5, hs6⟩, hs7⟩ := hs
  refine AW.ofRun (Post' := Post') (a := (gS G.2.2.1 as).toArray) (st := st) (fun h v hv => h v (by rw [hS]; exact List.mem_append_right _ hv)) ?_ kk
  intro hM hoS p e s m args below meth c C H locs hP hSS la hla
  have hMet := hA hM (fun v hv => hoS v (by rw [hS]; exact List.mem_append_left _ (List.mem_reverse.mpr hv)))
  obtain ⟨hx, hb, -, hml, hown, hts, -, hK, hD, hN, -⟩ := C
  have hG : GoodIn gw (.code y cc' nL' ret' :: gw) := fun w hw => by
    refine gw_good w ?_
    rcases List.mem_cons.mp hw with rfl | hw
    · exact hs1
    · exact hw
  exact va_runSN (As := gS G.2.2.1 as) (rest := gS G.2.2.1 st) ⟨hx, hb, hml, hown, hts⟩ hMet ⟨va_cnB (ws' := gw) n hts hG rfl rfl rfl (hl s hN) (hts _ hs2) ⟨hs3, hs4, hs5⟩ hR, hts _ hs7, trivial⟩ ⟨PC.blind, fun U hU hW => ⟨rfl, by rw [hU]; exact hP, va_K.moved hW.alike hK, hD.own, hN.warm hW⟩⟩ rfl (by unfold gS; rw [List.length_map]; exact hn) hla.1 (gS_rev0 hS) (lv_room (by rw [catS_ok]; exact h8)) hd hX
-- the three kinds of answers
theorem kI {P : Int → Mem → Prop} (kk : ∀ (x : Int) (M' : Mem), P x M' → AW G own cc nL ret X (pc + 3) ls (vI x :: st) M') : ∀ (r : Option AV) (M' : Mem), pI P r M' → AW G own cc nL ret X (pc + 3) ls (r.toList ++ st) M' := by
  rintro r M' ⟨x, rfl, h⟩
  exact kk x M' h
theorem kL {P : Int → Mem → Prop} (kk : ∀ (x : Int) (M' : Mem), P x M' → AW G own cc nL ret X (pc + 3) ls (vL x :: st) M') : ∀ (r : Option AV) (M' : Mem), pL P r M' → AW G own cc nL ret X (pc + 3) ls (r.toList ++ st) M' := by
  rintro r M' ⟨x, rfl, h⟩
  exact kk x M' h
theorem kV {P : Mem → Prop} (kk : ∀ (M' : Mem), P M' → AW G own cc nL ret X (pc + 3) ls st M') : ∀ (r : Option AV) (M' : Mem), pV P r M' → AW G own cc nL ret X (pc + 3) ls (r.toList ++ st) M' := by
  rintro r M' ⟨rfl, h⟩
  exact kk M' h
-- returns
theorem a_iret {lev : Nat} {P : Int → Mem → Prop} (hd : decode cc pc = .ok (.ireturn, 1)) (hp : P x M) : AW G own cc nL (some .int) (XM G lev (pI P)) pc ls [vI x] M := by
  intro hM hl hs p e s m args below meth c C H locs hP hS la hla
  obtain ⟨hx, hb, hr, -, -, -, hlocks, -⟩ := C
  exact W.iret (v := Int32.ofInt x) hx hb hr (fun t ht hW => ⟨⟨some (vI x), M, rfl, ⟨x, rfl, hp⟩, hM, fun v hv => Option.some.inj hv ▸ hs.hd, by rw [ht]; exact hP⟩, hS.F ht⟩) hS.2.2 hd hlocks
theorem a_zret {lev : Nat} {P : Int → Mem → Prop} (hd : decode cc pc = .ok (.ireturn, 1)) (h01 : x = 0 ∨ x = 1) (hp : P x M) : AW G own cc nL (some .boolean) (XM G lev (pI P)) pc ls [vI x] M := by
  intro hM hl hs p e s m args below meth c C H locs hP hS la hla
  obtain ⟨hx, hb, hr, -, -, -, hlocks, -⟩ := C
  refine W.zret (v := Int32.ofInt x) hx hb hr ?_ (fun t ht hW => ⟨⟨some (vI x), M, rfl, ⟨x, rfl, hp⟩, hM, fun v hv => Option.some.inj hv ▸ hs.hd, by rw [ht]; exact hP⟩, hS.F ht⟩) hS.2.2 hd hlocks
  rcases h01 with rfl | rfl <;> decide
theorem a_lret {lev : Nat} {P : Int → Mem → Prop} (hd : decode cc pc = .ok (.lreturn, 1)) (hp : P x M) : AW G own cc nL (some .long) (XM G lev (pL P)) pc ls [vL x] M := by
  intro hM hl hs p e s m args below meth c C H locs hP hS la hla
  obtain ⟨hx, hb, hr, -, -, -, hlocks, -⟩ := C
  exact W.lret (v := Int64.ofInt x) hx hb hr (fun t ht hW => ⟨⟨some (vL x), M, rfl, ⟨x, rfl, hp⟩, hM, fun v hv => Option.some.inj hv ▸ hs.hd, by rw [ht]; exact hP⟩, hS.F ht⟩) hS.2.2 hd hlocks
theorem a_vret {lev : Nat} {P : Mem → Prop} (hd : decode cc pc = .ok (.return_, 1)) (hp : P M) : AW G own cc nL none (XM G lev (pV P)) pc ls [] M := by
  intro hM hl hs p e s m args below meth c C H locs hP hS la hla
  obtain ⟨hx, hb, hr, -, -, -, hlocks, -⟩ := C
  exact W.vret hx hb hr (fun t ht hW => ⟨⟨none, M, rfl, ⟨rfl, hp⟩, hM, fun v hv => (by cases hv), by rw [ht]; exact hP⟩, hS.F ht⟩) hS.2.2 hd hlocks
-- exact answers
def qI (v : Int) (N : Mem) : Option AV → Mem → Prop := pI fun x M' => x = v ∧ M' = N
def qL (v : Int) (N : Mem) : Option AV → Mem → Prop := pL fun x M' => x = v ∧ M' = N
def qV (N : Mem) : Option AV → Mem → Prop := pV fun M' => M' = N
theorem kIE {v : Int} {N : Mem} (kk : AW G own cc nL ret X (pc + 3) ls (vI v :: st) N) : ∀ (r : Option AV) (M' : Mem), qI v N r M' → AW G own cc nL ret X (pc + 3) ls (r.toList ++ st) M' := kI fun x M' h => by rw [h.1, h.2]; exact kk
theorem kLE {v : Int} {N : Mem} (kk : AW G own cc nL ret X (pc + 3) ls (vL v :: st) N) : ∀ (r : Option AV) (M' : Mem), qL v N r M' → AW G own cc nL ret X (pc + 3) ls (r.toList ++ st) M' := kL fun x M' h => by rw [h.1, h.2]; exact kk
theorem kVE {N : Mem} (kk : AW G own cc nL ret X (pc + 3) ls st N) : ∀ (r : Option AV) (M' : Mem), qV N r M' → AW G own cc nL ret X (pc + 3) ls (r.toList ++ st) M' := kV fun M' h => by rw [h]; exact kk
theorem a_iretE {lev : Nat} {v : Int} {N : Mem} (hd : decode cc pc = .ok (.ireturn, 1)) (hp : x = v ∧ M = N) : AW G own cc nL (some .int) (XM G lev (qI v N)) pc ls [vI x] M := a_iret hd hp
theorem a_zretE {lev : Nat} {v : Int} {N : Mem} (hd : decode cc pc = .ok (.ireturn, 1)) (h01 : x = 0 ∨ x = 1) (hp : x = v ∧ M = N) : AW G own cc nL (some .boolean) (XM G lev (qI v N)) pc ls [vI x] M := a_zret hd h01 hp
theorem a_lretE {lev : Nat} {v : Int} {N : Mem} (hd : decode cc pc = .ok (.lreturn, 1)) (hp : x = v ∧ M = N) : AW G own cc nL (some .long) (XM G lev (qL v N)) pc ls [vL x] M := a_lret hd hp
theorem a_vretE {lev : Nat} {N : Mem} (hd : decode cc pc = .ok (.return_, 1)) (hp : M = N) : AW G own cc nL none (XM G lev (qV N)) pc ls [] M := a_vret hd hp
theorem inr (h : -2147483648 ≤ x ∧ x ≤ 2147483647) : inI x := h
theorem rd_ne {k c : Nat} {i j v : Int} (h : c ≠ k) : upm M k i v c j = M c j := by rw [upm_ne h]
theorem rd_eq {k : Nat} {i v : Int} : upm M k i v k i = v := by rw [upm_same, ups_same]
theorem rd_ni {k : Nat} {i j v : Int} (h : j ≠ i) : upm M k i v k j = M k j := by rw [upm_same, ups_ne h]
-- Math, System
def absI (x : Int) : Int := if 0 ≤ x then x else -x
def maxI (x y : Int) : Int := if x < y then y else x
def minI (x y : Int) : Int := if y < x then y else x
theorem a_abs {idx : Nat} (hd : decode cc pc = .ok (.invokestatic idx, 3)) (hl : Cond.methodLink own idx Lib.Math.abs.name ∈ gw) (hR : 1 ≤ X.1.1.frames ∧ catS st + 13 ≤ X.1.1.locals) (hX : X.1.2.1 ≤ X.1.1.cells ∧ X.1.2.2 ≤ X.1.1.slots) (hx0 : -2147483648 < x) (kk : AW G own cc nL ret X (pc + 3) ls (vI (absI x) :: st) M) : AW G own cc nL ret X pc ls (vI x :: st) M := by
  intro hM hlo hs p e s m args below meth c C H locs hP hS la hla
  have hx1 := hs.hI
  have hin : inI (absI x) := by
    unfold absI
    split
    · exact hx1
    · exact ⟨by omega, by omega⟩
  have w := kk hM hlo (okS.cI hin hs.tl) p e s m args below meth c C H locs hP hS la hla
  obtain ⟨hx, hb, -, hml, hown, hts, -⟩ := C
  refine va_mabs hx hb (by rw [hml, hla.1]) hown (hts _ hl) (hts _ ms_abs) (hts _ ini_Math) (hts _ mc_abs) hR.1 (by have hz := hR.2; rw [← catS_ok G.2.2.1 st] at hz; exact hz) hX.1 hX.2 hd ?_
  have e1 : (if 0 ≤ Int32.ofInt x then Int32.ofInt x else 0 - Int32.ofInt x) = Int32.ofInt (absI x) := by
    unfold absI
    by_cases h : 0 ≤ x
    · rw [if_pos h, if_pos ((i32_ge0 hx1).mpr h)]
    · rw [if_neg h, if_neg fun q => h ((i32_ge0 hx1).mp q), Int32.ofInt_neg, Int32.zero_sub]
  rw [e1]
  exact w
theorem a_max {idx : Nat} (hd : decode cc pc = .ok (.invokestatic idx, 3)) (hl : Cond.methodLink own idx Lib.Math.max.name ∈ gw) (hR : 1 ≤ X.1.1.frames ∧ catS st + 13 ≤ X.1.1.locals) (hX : X.1.2.1 ≤ X.1.1.cells ∧ X.1.2.2 ≤ X.1.1.slots) (kk : AW G own cc nL ret X (pc + 3) ls (vI (maxI x y) :: st) M) : AW G own cc nL ret X pc ls (vI y :: vI x :: st) M := by
  intro hM hlo hs p e s m args below meth c C H locs hP hS la hla
  have hx1 := hs.hI2
  have hy1 := hs.hI
  have hin : inI (maxI x y) := by
    unfold maxI
    split
    · exact hy1
    · exact hx1
  have w := kk hM hlo (okS.cI hin hs.tl.tl) p e s m args below meth c C H locs hP hS la hla
  obtain ⟨hx, hb, -, hml, hown, hts, -⟩ := C
  refine va_mmax hx hb (by rw [hml, hla.1]) hown (hts _ hl) (hts _ ms_max) (hts _ ini_Math) (hts _ mc_max) hR.1 (by have hz := hR.2; rw [← catS_ok G.2.2.1 st] at hz; exact hz) hX.1 hX.2 hd ?_
  have e1 : (if Int32.ofInt x < Int32.ofInt y then Int32.ofInt y else Int32.ofInt x) = Int32.ofInt (maxI x y) := by
    unfold maxI
    by_cases h : x < y
    · rw [if_pos h, if_pos ((i32_lt hx1 hy1).mpr h)]
    · rw [if_neg h, if_neg fun q => h ((i32_lt hx1 hy1).mp q)]
  rw [e1]
  exact w
theorem a_min {idx : Nat} (hd : decode cc pc = .ok (.invokestatic idx, 3)) (hl : Cond.methodLink own idx Lib.Math.min.name ∈ gw) (hR : 1 ≤ X.1.1.frames ∧ catS st + 13 ≤ X.1.1.locals) (hX : X.1.2.1 ≤ X.1.1.cells ∧ X.1.2.2 ≤ X.1.1.slots) (kk : AW G own cc nL ret X (pc + 3) ls (vI (minI x y) :: st) M) : AW G own cc nL ret X pc ls (vI y :: vI x :: st) M := by
  intro hM hlo hs p e s m args below meth c C H locs hP hS la hla
  have hx1 := hs.hI2
  have hy1 := hs.hI
  have hin : inI (minI x y) := by
    unfold minI
    split
    · exact hy1
    · exact hx1
  have w := kk hM hlo (okS.cI hin hs.tl.tl) p e s m args below meth c C H locs hP hS la hla
  obtain ⟨hx, hb, -, hml, hown, hts, -⟩ := C
  refine va_mmin hx hb (by rw [hml, hla.1]) hown (hts _ hl) (hts _ ms_min) (hts _ ini_Math) (hts _ mc_min) hR.1 (by have hz := hR.2; rw [← catS_ok G.2.2.1 st] at hz; exact hz) hX.1 hX.2 hd ?_
  have e1 : (if Int32.ofInt y < Int32.ofInt x then Int32.ofInt y else Int32.ofInt x) = Int32.ofInt (minI x y) := by
    unfold minI
    by_cases h : y < x
    · rw [if_pos h, if_pos ((i32_lt hy1 hx1).mpr h)]
    · rw [if_neg h, if_neg fun q => h ((i32_lt hy1 hx1).mp q)]
  rw [e1]
  exact w
def cpyI (f g : Int → Int) (sp dp n : Int) : Int → Int := fun j => if dp ≤ j ∧ j < dp + n then f (sp + (j - dp)) else g j
theorem a_arraycopy {idx k0 k1 n0 n1 : Nat} {sp dp n : Int} (hd : decode cc pc = .ok (.invokestatic idx, 3)) (hl : Cond.methodLink own idx arraycopyName ∈ gw) (hR : 1 ≤ X.1.1.frames ∧ catS st + (nativeFrameWords "java/lang/System" "arraycopy" 5 + 11) ≤ X.1.1.locals) (hA0 : isA k0 n0) (hA1 : isA k1 n1)
    (h1 : 0 ≤ sp) (h2 : 0 ≤ dp) (h3 : 0 ≤ n) (h4 : sp + n ≤ n0) (h5 : dp + n ≤ n1) (kk : AW G own cc nL ret X (pc + 3) ls st (upc M k1 (cpyI (M k0) (M k1) sp dp n))) : AW G own cc nL ret X pc ls (vI n :: vI dp :: vR k1 :: vI sp :: vR k0 :: st) M := by
  intro hM hlo hs p e s m args below meth c C H locs hP hS la hla
  have hin : inI n := hs.hd
  have hidp : inI dp := hs.tl.hd
  have hisp : inI sp := hs.tl.tl.tl.hd
  have hok : okM (upc M k1 (cpyI (M k0) (M k1) sp dp n)) := by
    intro c j
    by_cases hc : c = k1
    · subst hc
      rw [upc_same]
      unfold cpyI
      split
      · exact hM _ _
      · exact hM _ _
    · rw [upc_ne hc]; exact hM c j
  have w := kk hok hlo hs.tl.tl.tl.tl.tl p e s m args below meth c C
  obtain ⟨hx, hb, -, hml, hown, hts, -, hK, hD, -⟩ := C
  refine va_copyi (D := G.2.1) hx hb (by rw [hml, hla.1]) hown (hts _ hl) (hts _ ac_nat) (hts _ ac_stat) (hts _ ini_System) hK hP (hD.to M) hS k0 k1 0 0 (wd_at hA0) (wd_at hA1) (ty := .int) rfl rfl rfl (fun q => by have := (i32_lt0 hisp).mp q; omega) (fun q => by have := (i32_lt0 hidp).mp q; omega) (fun q => by have := (i32_lt0 hin).mp q; omega) (by rw [i32_nat hisp, i32_nat hin]; omega) (by rw [i32_nat hidp, i32_nat hin]; omega) (fun i hi => rfl) hR.1 (by have hz := hR.2; rw [← catS_ok G.2.2.1 st] at hz; exact hz) hd (fun H1 locs1 hP1 hD1 hS1 => ?_)
  refine w H1 locs1 ?_ hS1 la hla
  rw [wd_set (f := cpyI (M k0) (M k1) sp dp n) hA1 (by
    show Sum.inl (G.2.2.2.1, n1, Sum.inl (fun j : Nat => Int32.ofInt (upc M k1 (cpyI (M k0) (M k1) sp dp n) k1 (j : Int)))) = _
    congr 3
    rw [i32_nat hisp, i32_nat hidp, i32_nat hin]
    congr 1
    funext j
    rw [upc_same]
    unfold va_cpy cpyI
    by_cases hj : dp.toNat ≤ j ∧ j < dp.toNat + n.toNat
    · rw [if_pos hj, if_pos (by omega), show sp + ((j : Int) - dp) = ((sp.toNat + (j - dp.toNat) : Nat) : Int) by omega]
    · rw [if_neg hj, if_neg (by omega)])] at hP1
  exact hP1
end HRows
