/-! ===== one-instruction rows for the abstract judgement ===== -/
section Rows
variable {G : GT} {own : String} {cc : ByteArray} {nL : Nat} {ret : Option FieldType} {X : XT} {pc : Nat} {ls ls' : List (Nat × AV)} {st : List AV} {M : Mem} {x y : Int}
theorem okS.cI {z : Int} (h1 : inI z) (h : okS st) : okS (vI z :: st) := okS.cons (v := vI z) h1 h
theorem okS.cL {z : Int} (h1 : inL z) (h : okS st) : okS (vL z :: st) := okS.cons (v := vL z) h1 h
/-- an instruction that works on the stack alone -/
theorem AW.pure {pc' : Nat} {st' : List AV} (hok : okS st → okS st') (k : AW G own cc nL ret X pc' ls st' M)
    (step : okS st → ∀ (p : Program) (e : Env) (s : State) (m : MethodId) (args : Array Value) (below : List Frame) (meth : Method) (c : Code), Cx G own cc nL ret X p s m args meth c → ∀ (H : Heap) (locs : List Loc) (la : Array Slot),
      W p G.1 e X.1.1 s m args below meth c H locs X.1.2.1 X.1.2.2 (X.2.2.2 below args s) (F0 m pc' la (gS G.2.2.1 st')) → W p G.1 e X.1.1 s m args below meth c H locs X.1.2.1 X.1.2.2 (X.2.2.2 below args s) (F0 m pc la (gS G.2.2.1 st))) : AW G own cc nL ret X pc ls st M :=
  fun hM hl hs p e s m args below meth c C H locs hP hS la hla => step hs p e s m args below meth c C H locs la (k hM hl (hok hs) p e s m args below meth c C H locs hP hS la hla)
theorem AW.facts (k : okM M → okL ls → okS st → AW G own cc nL ret X pc ls st M) : AW G own cc nL ret X pc ls st M := fun hM hl hs => k hM hl hs hM hl hs
theorem AW.mem {M' : Mem} (e : M = M') (k : AW G own cc nL ret X pc ls st M') : AW G own cc nL ret X pc ls st M := e ▸ k
def lpick (l : List (Nat × AV)) (ks : List Nat) : List (Nat × AV) := ks.filterMap fun k => l[k]?
/-- fewer locals, in any order, by their places -/
theorem AW.loc (ks : List Nat) (hk : lpick ls ks = ls') (k : AW G own cc nL ret X pc ls' st M) : AW G own cc nL ret X pc ls st M := by
  have sub : ∀ q ∈ ls', q ∈ ls := fun q hq => by
    rw [← hk] at hq
    obtain ⟨i, -, hi⟩ := List.mem_filterMap.mp hq
    exact List.mem_of_getElem? hi
  intro hM hl hs p e s m args below meth c C H locs hP hS la hla
  refine k hM (fun q hq => hl q (sub q hq)) hs p e s m args below meth c C H locs hP hS la ⟨hla.1, hla.2.1, fun q hq => ?_⟩
  obtain ⟨q0, h0, rfl⟩ := List.mem_map.mp hq
  exact hla.2.2 _ (List.mem_map.mpr ⟨q0, sub q0 h0, rfl⟩)
-- constants
theorem a_iconst {n : Int} (hd : decode cc pc = .ok (.iconst n, 1)) (hn : inB n = true) (k : AW G own cc nL ret X (pc + 1) ls (vI n :: st) M) : AW G own cc nL ret X pc ls st M :=
  AW.pure (okS.cI (inB_ok hn)) k fun _ p e s m args below meth c C H locs la w => lv_iconst C.1 C.2.1 hd rfl w
theorem a_bipush {n : Int} (hd : decode cc pc = .ok (.bipush n, 2)) (hn : inB n = true) (hv : (Int8.ofInt n).toInt32 = Int32.ofInt n) (k : AW G own cc nL ret X (pc + 2) ls (vI n :: st) M) : AW G own cc nL ret X pc ls st M :=
  AW.pure (okS.cI (inB_ok hn)) k fun _ p e s m args below meth c C H locs la w => lv_bipush C.1 C.2.1 hd hv w
theorem a_sipush {n : Int} (hd : decode cc pc = .ok (.sipush n, 3)) (hn : inB n = true) (hv : (Int16.ofInt n).toInt32 = Int32.ofInt n) (k : AW G own cc nL ret X (pc + 3) ls (vI n :: st) M) : AW G own cc nL ret X pc ls st M :=
  AW.pure (okS.cI (inB_ok hn)) k fun _ p e s m args below meth c C H locs la w => lv_sipush C.1 C.2.1 hd hv w
theorem a_lconst {n : Fin 2} (hd : decode cc pc = .ok (.lconst n, 1)) (x : Int) (hn : inB x = true) (hv : Int64.ofNat (n : Nat) = Int64.ofInt x) (k : AW G own cc nL ret X (pc + 1) ls (vL x :: st) M) : AW G own cc nL ret X pc ls st M :=
  AW.pure (okS.cL (inI_L (inB_ok hn))) k fun _ p e s m args below meth c C H locs la w => lv_lconst C.1 C.2.1 hd hv w
theorem a_ldc {idx : Nat} (hd : decode cc pc = .ok (.ldc idx, 2)) {v : Int32} (hw : Cond.constant own idx v ∈ gw) (x : Int) (hv : v = Int32.ofInt x) (hn : inB x = true) (k : AW G own cc nL ret X (pc + 2) ls (vI x :: st) M) : AW G own cc nL ret X pc ls st M :=
  AW.pure (okS.cI (inB_ok hn)) k fun _ p e s m args below meth c C H locs la w => lv_ldc C.1 C.2.1 C.2.2.2.2.1 (C.2.2.2.2.2.1 _ hw) hd (by rw [hv]; exact w)
theorem a_ldcw {idx : Nat} (hd : decode cc pc = .ok (.ldc_w idx, 3)) {v : Int32} (hw : Cond.constant own idx v ∈ gw) (x : Int) (hv : v = Int32.ofInt x) (hn : inB x = true) (k : AW G own cc nL ret X (pc + 3) ls (vI x :: st) M) : AW G own cc nL ret X pc ls st M :=
  AW.pure (okS.cI (inB_ok hn)) k fun _ p e s m args below meth c C H locs la w => lv_ldcw C.1 C.2.1 C.2.2.2.2.1 (C.2.2.2.2.2.1 _ hw) hd (by rw [hv]; exact w)
theorem a_ldc2 {idx : Nat} (hd : decode cc pc = .ok (.ldc2_w idx, 3)) {v : Int64} (hw : Cond.constantLong own idx v ∈ gw) (x : Int) (hv : v = Int64.ofInt x) (hn : inL x) (k : AW G own cc nL ret X (pc + 3) ls (vL x :: st) M) : AW G own cc nL ret X pc ls st M :=
  AW.pure (okS.cL hn) k fun _ p e s m args below meth c C H locs la w => lv_ldc2 C.1 C.2.1 C.2.2.2.2.1 (C.2.2.2.2.2.1 _ hw) hd (by rw [hv]; exact w)
-- locals
theorem lv_of {la : Array Slot} {i j : Nat} {v : AV} (hla : lv_has la nL (gL G.2.2.1 ls)) (hj : ls[j]? = some (i, v)) : la[i]? = some (.val (gV G.2.2.1 v)) :=
  hla.2.2 (i, gV G.2.2.1 v) (List.mem_map.mpr ⟨(i, v), List.mem_of_getElem? hj, rfl⟩)
theorem ok_of {i j : Nat} {v : AV} (hl : okL ls) (hj : ls[j]? = some (i, v)) : okV v := hl (i, v) (List.mem_of_getElem? hj)
theorem a_iload_n {kk : Fin 4} (hd : decode cc pc = .ok (.iload_n kk, 1)) (j : Nat) (hj : ls[j]? = some ((kk : Nat), vI x)) (k : AW G own cc nL ret X (pc + 1) ls (vI x :: st) M) : AW G own cc nL ret X pc ls st M :=
  fun hM hl hs p e s m args below meth c C H locs hP hS la hla => lv_iload_n C.1 C.2.1 hd rfl (lv_of hla hj) (k hM hl (okS.cons (ok_of hl hj) hs) p e s m args below meth c C H locs hP hS la hla)
theorem a_iload {i : Nat} (hd : decode cc pc = .ok (.iload i, 2)) (j : Nat) (hj : ls[j]? = some (i, vI x)) (k : AW G own cc nL ret X (pc + 2) ls (vI x :: st) M) : AW G own cc nL ret X pc ls st M :=
  fun hM hl hs p e s m args below meth c C H locs hP hS la hla => lv_iload C.1 C.2.1 hd (lv_of hla hj) (k hM hl (okS.cons (ok_of hl hj) hs) p e s m args below meth c C H locs hP hS la hla)
theorem a_lload_n {kk : Fin 4} (hd : decode cc pc = .ok (.lload_n kk, 1)) (j : Nat) (hj : ls[j]? = some ((kk : Nat), vL x)) (k : AW G own cc nL ret X (pc + 1) ls (vL x :: st) M) : AW G own cc nL ret X pc ls st M :=
  fun hM hl hs p e s m args below meth c C H locs hP hS la hla => lv_lload_n C.1 C.2.1 hd rfl (lv_of hla hj) (k hM hl (okS.cons (ok_of hl hj) hs) p e s m args below meth c C H locs hP hS la hla)
theorem a_lload {i : Nat} (hd : decode cc pc = .ok (.lload i, 2)) (j : Nat) (hj : ls[j]? = some (i, vL x)) (k : AW G own cc nL ret X (pc + 2) ls (vL x :: st) M) : AW G own cc nL ret X pc ls st M :=
  fun hM hl hs p e s m args below meth c C H locs hP hS la hla => lv_lload C.1 C.2.1 hd (lv_of hla hj) (k hM hl (okS.cons (ok_of hl hj) hs) p e s m args below meth c C H locs hP hS la hla)
theorem a_aload_n {kk : Fin 4} {r : Nat} (hd : decode cc pc = .ok (.aload_n kk, 1)) (j : Nat) (hj : ls[j]? = some ((kk : Nat), vR r)) (k : AW G own cc nL ret X (pc + 1) ls (vR r :: st) M) : AW G own cc nL ret X pc ls st M :=
  fun hM hl hs p e s m args below meth c C H locs hP hS la hla => lv_aload_n C.1 C.2.1 hd rfl (lv_of hla hj) (k hM hl (okS.cons (ok_of hl hj) hs) p e s m args below meth c C H locs hP hS la hla)
theorem a_aload {i r : Nat} (hd : decode cc pc = .ok (.aload i, 2)) (j : Nat) (hj : ls[j]? = some (i, vR r)) (k : AW G own cc nL ret X (pc + 2) ls (vR r :: st) M) : AW G own cc nL ret X pc ls st M :=
  fun hM hl hs p e s m args below meth c C H locs hP hS la hla => lv_aload C.1 C.2.1 hd (lv_of hla hj) (k hM hl (okS.cons (ok_of hl hj) hs) p e s m args below meth c C H locs hP hS la hla)
/-- a local is stored: in its place if it has one, else behind -/
def sto1 (i : Nat) (v : AV) (l : List (Nat × AV)) : List (Nat × AV) := match l with
  | [] => [(i, v)]
  | q :: r => if q.1 = i then (i, v) :: r.filter (fun q => !(q.1 == i) && !(q.1 + 1 == i && catV q.2 == 2)) else if q.1 + 1 = i ∧ catV q.2 = 2 then sto1 i v r else q :: sto1 i v r
theorem sto1_in {i : Nat} {v : AV} : ∀ {l : List (Nat × AV)} {q : Nat × AV}, q ∈ sto1 i v l → q = (i, v) ∨ (q ∈ l ∧ (!(q.1 == i) && !(q.1 + 1 == i && catV q.2 == 2)) = true)
  | [], q, h => Or.inl (by simpa [sto1] using h)
  | a :: r, q, h => by
    unfold sto1 at h
    by_cases h1 : a.1 = i
    · rw [if_pos h1] at h
      rcases List.mem_cons.mp h with h | h
      · exact Or.inl h
      · exact Or.inr ⟨List.mem_cons_of_mem _ (List.mem_filter.mp h).1, (List.mem_filter.mp h).2⟩
    · rw [if_neg h1] at h
      by_cases h2 : a.1 + 1 = i ∧ catV a.2 = 2
      · rw [if_pos h2] at h
        rcases sto1_in h with h | h
        · exact Or.inl h
        · exact Or.inr ⟨List.mem_cons_of_mem _ h.1, h.2⟩
      · rw [if_neg h2] at h
        rcases List.mem_cons.mp h with rfl | h
        · refine Or.inr ⟨List.mem_cons_self, ?_⟩
          simp only [Bool.and_eq_true, Bool.not_eq_true', beq_eq_false_iff_ne, Bool.and_eq_false_iff, ne_eq]
          refine ⟨h1, ?_⟩
          by_cases h3 : q.1 + 1 = i
          · exact Or.inr fun h4 => h2 ⟨h3, h4⟩
          · exact Or.inl h3
        · rcases sto1_in h with h | h
          · exact Or.inl h
          · exact Or.inr ⟨List.mem_cons_of_mem _ h.1, h.2⟩
def sto2 (i : Nat) (v : AV) (l : List (Nat × AV)) : List (Nat × AV) := match l with
  | [] => [(i, v)]
  | q :: r => if q.1 = i then (i, v) :: r.filter (fun q => !(q.1 == i) && (!(q.1 == i + 1) && !(q.1 + 1 == i && catV q.2 == 2))) else if q.1 = i + 1 ∨ (q.1 + 1 = i ∧ catV q.2 = 2) then sto2 i v r else q :: sto2 i v r
theorem sto2_in {i : Nat} {v : AV} : ∀ {l : List (Nat × AV)} {q : Nat × AV}, q ∈ sto2 i v l → q = (i, v) ∨ (q ∈ l ∧ (!(q.1 == i) && (!(q.1 == i + 1) && !(q.1 + 1 == i && catV q.2 == 2))) = true)
  | [], q, h => Or.inl (by simpa [sto2] using h)
  | a :: r, q, h => by
    unfold sto2 at h
    by_cases h1 : a.1 = i
    · rw [if_pos h1] at h
      rcases List.mem_cons.mp h with h | h
      · exact Or.inl h
      · exact Or.inr ⟨List.mem_cons_of_mem _ (List.mem_filter.mp h).1, (List.mem_filter.mp h).2⟩
    · rw [if_neg h1] at h
      by_cases h2 : a.1 = i + 1 ∨ (a.1 + 1 = i ∧ catV a.2 = 2)
      · rw [if_pos h2] at h
        rcases sto2_in h with h | h
        · exact Or.inl h
        · exact Or.inr ⟨List.mem_cons_of_mem _ h.1, h.2⟩
      · rw [if_neg h2] at h
        rcases List.mem_cons.mp h with rfl | h
        · refine Or.inr ⟨List.mem_cons_self, ?_⟩
          simp only [Bool.and_eq_true, Bool.not_eq_true', beq_eq_false_iff_ne, Bool.and_eq_false_iff, ne_eq]
          refine ⟨h1, fun h3 => h2 (Or.inl h3), ?_⟩
          by_cases h3 : q.1 + 1 = i
          · exact Or.inr fun h4 => h2 (Or.inr ⟨h3, h4⟩)
          · exact Or.inl h3
        · rcases sto2_in h with h | h
          · exact Or.inl h
          · exact Or.inr ⟨List.mem_cons_of_mem _ h.1, h.2⟩
theorem sto1_has {la : Array Slot} {i : Nat} {v : AV} (hs : sto1 i v ls = ls') (h : lv_has la nL ((i, gV G.2.2.1 v) :: (gL G.2.2.1 ls).filter (fun q => !(q.1 == i) && !(q.1 + 1 == i && q.2.category == 2)))) : lv_has la nL (gL G.2.2.1 ls') := by
  refine ⟨h.1, h.2.1, fun q hq => h.2.2 q ?_⟩
  obtain ⟨q0, h0, rfl⟩ := List.mem_map.mp hq
  rw [← hs] at h0
  rcases sto1_in h0 with rfl | ⟨h1, h2⟩
  · exact List.mem_cons_self
  · exact List.mem_cons_of_mem _ (List.mem_filter.mpr ⟨List.mem_map.mpr ⟨q0, h1, rfl⟩, by simpa only [catV_ok] using h2⟩)
theorem sto2_has {la : Array Slot} {i : Nat} {v : AV} (hs : sto2 i v ls = ls') (h : lv_has la nL ((i, gV G.2.2.1 v) :: (gL G.2.2.1 ls).filter (fun q => !(q.1 == i) && (!(q.1 == i + 1) && !(q.1 + 1 == i && q.2.category == 2))))) : lv_has la nL (gL G.2.2.1 ls') := by
  refine ⟨h.1, h.2.1, fun q hq => h.2.2 q ?_⟩
  obtain ⟨q0, h0, rfl⟩ := List.mem_map.mp hq
  rw [← hs] at h0
  rcases sto2_in h0 with rfl | ⟨h1, h2⟩
  · exact List.mem_cons_self
  · exact List.mem_cons_of_mem _ (List.mem_filter.mpr ⟨List.mem_map.mpr ⟨q0, h1, rfl⟩, by simpa only [catV_ok] using h2⟩)
theorem sto1_ok {i : Nat} {v : AV} (hs : sto1 i v ls = ls') (hl : okL ls) (hv : okV v) : okL ls' := fun q hq => by
  rw [← hs] at hq
  rcases sto1_in hq with rfl | h
  · exact hv
  · exact hl q h.1
theorem sto2_ok {i : Nat} {v : AV} (hs : sto2 i v ls = ls') (hl : okL ls) (hv : okV v) : okL ls' := fun q hq => by
  rw [← hs] at hq
  rcases sto2_in hq with rfl | h
  · exact hv
  · exact hl q h.1
theorem a_istore_n {kk : Fin 4} (hd : decode cc pc = .ok (.istore_n kk, 1)) (hn : (kk : Nat) < nL) (hs : sto1 (kk : Nat) (vI x) ls = ls') (k : AW G own cc nL ret X (pc + 1) ls' st M) : AW G own cc nL ret X pc ls (vI x :: st) M :=
  fun hM hl ho p e s m args below meth c C H locs hP hS la hla => lv_istore_n C.1 C.2.1 hd rfl hla hn rfl fun la' hla' => k hM (sto1_ok hs hl ho.hd) ho.tl p e s m args below meth c C H locs hP hS la' (sto1_has (v := vI x) hs hla')
theorem a_istore {i : Nat} (hd : decode cc pc = .ok (.istore i, 2)) (hn : i < nL) (hs : sto1 i (vI x) ls = ls') (k : AW G own cc nL ret X (pc + 2) ls' st M) : AW G own cc nL ret X pc ls (vI x :: st) M :=
  fun hM hl ho p e s m args below meth c C H locs hP hS la hla => lv_istore C.1 C.2.1 hd hla hn rfl fun la' hla' => k hM (sto1_ok hs hl ho.hd) ho.tl p e s m args below meth c C H locs hP hS la' (sto1_has (v := vI x) hs hla')
theorem a_astore_n {kk : Fin 4} {r : Nat} (hd : decode cc pc = .ok (.astore_n kk, 1)) (hn : (kk : Nat) < nL) (hs : sto1 (kk : Nat) (vR r) ls = ls') (k : AW G own cc nL ret X (pc + 1) ls' st M) : AW G own cc nL ret X pc ls (vR r :: st) M :=
  fun hM hl ho p e s m args below meth c C H locs hP hS la hla => lv_astore_n C.1 C.2.1 hd rfl hla hn rfl fun la' hla' => k hM (sto1_ok hs hl ho.hd) ho.tl p e s m args below meth c C H locs hP hS la' (sto1_has (v := vR r) hs hla')
theorem a_astore {i r : Nat} (hd : decode cc pc = .ok (.astore i, 2)) (hn : i < nL) (hs : sto1 i (vR r) ls = ls') (k : AW G own cc nL ret X (pc + 2) ls' st M) : AW G own cc nL ret X pc ls (vR r :: st) M :=
  fun hM hl ho p e s m args below meth c C H locs hP hS la hla => lv_astore C.1 C.2.1 hd hla hn rfl fun la' hla' => k hM (sto1_ok hs hl ho.hd) ho.tl p e s m args below meth c C H locs hP hS la' (sto1_has (v := vR r) hs hla')
theorem a_lstore_n {kk : Fin 4} (hd : decode cc pc = .ok (.lstore_n kk, 1)) (hn : (kk : Nat) + 1 < nL) (hs : sto2 (kk : Nat) (vL x) ls = ls') (k : AW G own cc nL ret X (pc + 1) ls' st M) : AW G own cc nL ret X pc ls (vL x :: st) M :=
  fun hM hl ho p e s m args below meth c C H locs hP hS la hla => lv_lstore_n C.1 C.2.1 hd rfl hla hn rfl fun la' hla' => k hM (sto2_ok hs hl ho.hd) ho.tl p e s m args below meth c C H locs hP hS la' (sto2_has (v := vL x) hs hla')
theorem a_lstore {i : Nat} (hd : decode cc pc = .ok (.lstore i, 2)) (hn : i + 1 < nL) (hs : sto2 i (vL x) ls = ls') (k : AW G own cc nL ret X (pc + 2) ls' st M) : AW G own cc nL ret X pc ls (vL x :: st) M :=
  fun hM hl ho p e s m args below meth c C H locs hP hS la hla => lv_lstore C.1 C.2.1 hd hla hn rfl fun la' hla' => k hM (sto2_ok hs hl ho.hd) ho.tl p e s m args below meth c C H locs hP hS la' (sto2_has (v := vL x) hs hla')
theorem a_iinc {i : Nat} {n : Int} (hd : decode cc pc = .ok (.iinc i n, 3)) (j : Nat) (hj : ls[j]? = some (i, vI x)) (hn : i < nL) (hi : inI (x + n)) (hs : sto1 i (vI (x + n)) ls = ls') (k : AW G own cc nL ret X (pc + 3) ls' st M) : AW G own cc nL ret X pc ls st M :=
  fun hM hl ho p e s m args below meth c C H locs hP hS la hla => lv_iinc (x := Int32.ofInt x) (v := Int32.ofInt (x + n)) (k := j) C.1 C.2.1 hd hla (by unfold gL; rw [List.getElem?_map, hj]; rfl) (by rw [Int32.ofInt_add]) hn rfl fun la' hla' => k hM (sto1_ok hs hl hi) ho p e s m args below meth c C H locs hP hS la' (sto1_has (v := vI (x + n)) hs hla')
-- arithmetic
theorem a_iadd (hd : decode cc pc = .ok (.iadd, 1)) (h : inI (x + y)) (k : AW G own cc nL ret X (pc + 1) ls (vI (x + y) :: st) M) : AW G own cc nL ret X pc ls (vI y :: vI x :: st) M :=
  AW.pure (fun h0 => okS.cI h h0.tl.tl) k fun _ p e s m args below meth c C H locs la w => lv_iadd C.1 C.2.1 hd (by rw [← Int32.ofInt_add]; exact w)
theorem a_isub (hd : decode cc pc = .ok (.isub, 1)) (h : inI (x - y)) (k : AW G own cc nL ret X (pc + 1) ls (vI (x - y) :: st) M) : AW G own cc nL ret X pc ls (vI y :: vI x :: st) M :=
  AW.pure (fun h0 => okS.cI h h0.tl.tl) k fun _ p e s m args below meth c C H locs la w => lv_isub C.1 C.2.1 hd (by rw [← Int32.ofInt_sub]; exact w)
theorem a_imul (hd : decode cc pc = .ok (.imul, 1)) (h : inI (x * y)) (k : AW G own cc nL ret X (pc + 1) ls (vI (x * y) :: st) M) : AW G own cc nL ret X pc ls (vI y :: vI x :: st) M :=
  AW.pure (fun h0 => okS.cI h h0.tl.tl) k fun _ p e s m args below meth c C H locs la w => lv_imul C.1 C.2.1 hd (by rw [← Int32.ofInt_mul]; exact w)
/-- as ints, as longs, that wrap -/
def wI (x : Int) : Int := (Int32.ofInt x).toInt
def wL (x : Int) : Int := (Int64.ofInt x).toInt
theorem wI_id {x : Int} (h : inI x) : wI x = x := i32 h
theorem wL_id {x : Int} (h : inL x) : wL x = x := i64 h
theorem wI_in (x : Int) : inI (wI x) := i32_in _
theorem wL_in (x : Int) : inL (wL x) := i64_in _
theorem wI_of (x : Int) : Int32.ofInt (wI x) = Int32.ofInt x := Int32.ofInt_toInt _
theorem wL_of (x : Int) : Int64.ofInt (wL x) = Int64.ofInt x := Int64.ofInt_toInt _
theorem a_iaddW (hd : decode cc pc = .ok (.iadd, 1)) (k : AW G own cc nL ret X (pc + 1) ls (vI (wI (x + y)) :: st) M) : AW G own cc nL ret X pc ls (vI y :: vI x :: st) M :=
  AW.pure (fun h0 => okS.cI (wI_in _) h0.tl.tl) k fun _ p e s m args below meth c C H locs la w => lv_iadd C.1 C.2.1 hd (by rw [← Int32.ofInt_add, ← wI_of]; exact w)
theorem a_isubW (hd : decode cc pc = .ok (.isub, 1)) (k : AW G own cc nL ret X (pc + 1) ls (vI (wI (x - y)) :: st) M) : AW G own cc nL ret X pc ls (vI y :: vI x :: st) M :=
  AW.pure (fun h0 => okS.cI (wI_in _) h0.tl.tl) k fun _ p e s m args below meth c C H locs la w => lv_isub C.1 C.2.1 hd (by rw [← Int32.ofInt_sub, ← wI_of]; exact w)
theorem a_imulW (hd : decode cc pc = .ok (.imul, 1)) (k : AW G own cc nL ret X (pc + 1) ls (vI (wI (x * y)) :: st) M) : AW G own cc nL ret X pc ls (vI y :: vI x :: st) M :=
  AW.pure (fun h0 => okS.cI (wI_in _) h0.tl.tl) k fun _ p e s m args below meth c C H locs la w => lv_imul C.1 C.2.1 hd (by rw [← Int32.ofInt_mul, ← wI_of]; exact w)
theorem a_ineg (hd : decode cc pc = .ok (.ineg, 1)) (h : inI (-x)) (k : AW G own cc nL ret X (pc + 1) ls (vI (-x) :: st) M) : AW G own cc nL ret X pc ls (vI x :: st) M :=
  AW.pure (fun h0 => okS.cI h h0.tl) k fun _ p e s m args below meth c C H locs la w => lv_ineg C.1 C.2.1 hd (by first | (rw [← Int32.ofInt_neg]; exact w) | (rw [show (0 : Int32) - Int32.ofInt x = Int32.ofInt (-x) from by rw [Int32.ofInt_neg, Int32.zero_sub]]; exact w))
theorem a_inegW (hd : decode cc pc = .ok (.ineg, 1)) (k : AW G own cc nL ret X (pc + 1) ls (vI (wI (-x)) :: st) M) : AW G own cc nL ret X pc ls (vI x :: st) M :=
  AW.pure (fun h0 => okS.cI (wI_in _) h0.tl) k fun _ p e s m args below meth c C H locs la w => lv_ineg C.1 C.2.1 hd (by first | (rw [← Int32.ofInt_neg, ← wI_of]; exact w) | (rw [show (0 : Int32) - Int32.ofInt x = Int32.ofInt (wI (-x)) from by rw [wI_of, Int32.ofInt_neg, Int32.zero_sub]]; exact w))
theorem a_ladd (hd : decode cc pc = .ok (.ladd, 1)) (k : AW G own cc nL ret X (pc + 1) ls (vL (wL (x + y)) :: st) M) : AW G own cc nL ret X pc ls (vL y :: vL x :: st) M :=
  AW.pure (fun h0 => okS.cL (wL_in _) h0.tl.tl) k fun _ p e s m args below meth c C H locs la w => lv_ladd C.1 C.2.1 hd (by rw [← Int64.ofInt_add, ← wL_of]; exact w)
theorem a_lsub (hd : decode cc pc = .ok (.lsub, 1)) (k : AW G own cc nL ret X (pc + 1) ls (vL (wL (x - y)) :: st) M) : AW G own cc nL ret X pc ls (vL y :: vL x :: st) M :=
  AW.pure (fun h0 => okS.cL (wL_in _) h0.tl.tl) k fun _ p e s m args below meth c C H locs la w => lv_lsub C.1 C.2.1 hd (by rw [← Int64.ofInt_sub, ← wL_of]; exact w)
theorem a_lmul (hd : decode cc pc = .ok (.lmul, 1)) (k : AW G own cc nL ret X (pc + 1) ls (vL (wL (x * y)) :: st) M) : AW G own cc nL ret X pc ls (vL y :: vL x :: st) M :=
  AW.pure (fun h0 => okS.cL (wL_in _) h0.tl.tl) k fun _ p e s m args below meth c C H locs la w => lv_lmul C.1 C.2.1 hd (by rw [← Int64.ofInt_mul, ← wL_of]; exact w)
-- bits
def iAnd (x y : Int) : Int := (Int32.ofInt x &&& Int32.ofInt y).toInt
def iOr (x y : Int) : Int := (Int32.ofInt x ||| Int32.ofInt y).toInt
def iXor (x y : Int) : Int := (Int32.ofInt x ^^^ Int32.ofInt y).toInt
def iShl (x y : Int) : Int := (Int32.ofInt x <<< (Int32.ofInt y &&& 31)).toInt
def iShr (x y : Int) : Int := (Int32.ofInt x >>> (Int32.ofInt y &&& 31)).toInt
def iUshr (x y : Int) : Int := ((Int32.ofInt x).toUInt32 >>> ((Int32.ofInt y).toUInt32 &&& Int32.toUInt32 31)).toInt32.toInt
def iB (x : Int) : Int := (Int32.ofInt x).toInt8.toInt32.toInt
def iS (x : Int) : Int := (Int32.ofInt x).toInt16.toInt32.toInt
def lAnd (x y : Int) : Int := (Int64.ofInt x &&& Int64.ofInt y).toInt
def lShl (x y : Int) : Int := (Int64.ofInt x <<< ((Int32.ofInt y).toInt64 &&& 63)).toInt
def lShr (x y : Int) : Int := (Int64.ofInt x >>> ((Int32.ofInt y).toInt64 &&& 63)).toInt
theorem a_iand (hd : decode cc pc = .ok (.iand, 1)) (k : AW G own cc nL ret X (pc + 1) ls (vI (iAnd x y) :: st) M) : AW G own cc nL ret X pc ls (vI y :: vI x :: st) M :=
  AW.pure (fun h0 => okS.cI (i32_in _) h0.tl.tl) k fun _ p e s m args below meth c C H locs la w => lv_iand C.1 C.2.1 hd (by rw [← Int32.ofInt_toInt (_ &&& _)]; exact w)
theorem a_ior (hd : decode cc pc = .ok (.ior, 1)) (k : AW G own cc nL ret X (pc + 1) ls (vI (iOr x y) :: st) M) : AW G own cc nL ret X pc ls (vI y :: vI x :: st) M :=
  AW.pure (fun h0 => okS.cI (i32_in _) h0.tl.tl) k fun _ p e s m args below meth c C H locs la w => lv_ior C.1 C.2.1 hd (by rw [← Int32.ofInt_toInt (_ ||| _)]; exact w)
theorem a_ixor (hd : decode cc pc = .ok (.ixor, 1)) (k : AW G own cc nL ret X (pc + 1) ls (vI (iXor x y) :: st) M) : AW G own cc nL ret X pc ls (vI y :: vI x :: st) M :=
  AW.pure (fun h0 => okS.cI (i32_in _) h0.tl.tl) k fun _ p e s m args below meth c C H locs la w => lv_ixor C.1 C.2.1 hd (by rw [← Int32.ofInt_toInt (_ ^^^ _)]; exact w)
theorem a_ishl (hd : decode cc pc = .ok (.ishl, 1)) (k : AW G own cc nL ret X (pc + 1) ls (vI (iShl x y) :: st) M) : AW G own cc nL ret X pc ls (vI y :: vI x :: st) M :=
  AW.pure (fun h0 => okS.cI (i32_in _) h0.tl.tl) k fun _ p e s m args below meth c C H locs la w => lv_ishl C.1 C.2.1 hd (by rw [← Int32.ofInt_toInt (_ <<< _)]; exact w)
theorem a_ishr (hd : decode cc pc = .ok (.ishr, 1)) (k : AW G own cc nL ret X (pc + 1) ls (vI (iShr x y) :: st) M) : AW G own cc nL ret X pc ls (vI y :: vI x :: st) M :=
  AW.pure (fun h0 => okS.cI (i32_in _) h0.tl.tl) k fun _ p e s m args below meth c C H locs la w => lv_ishr C.1 C.2.1 hd (by rw [← Int32.ofInt_toInt (_ >>> _)]; exact w)
theorem a_iushr (hd : decode cc pc = .ok (.iushr, 1)) (k : AW G own cc nL ret X (pc + 1) ls (vI (iUshr x y) :: st) M) : AW G own cc nL ret X pc ls (vI y :: vI x :: st) M :=
  AW.pure (fun h0 => okS.cI (i32_in _) h0.tl.tl) k fun _ p e s m args below meth c C H locs la w => lv_iushr C.1 C.2.1 hd (Int32.ofInt_toInt _).symm w
theorem a_i2b (hd : decode cc pc = .ok (.i2b, 1)) (k : AW G own cc nL ret X (pc + 1) ls (vI (iB x) :: st) M) : AW G own cc nL ret X pc ls (vI x :: st) M :=
  AW.pure (fun h0 => okS.cI (i32_in _) h0.tl) k fun _ p e s m args below meth c C H locs la w => lv_i2b C.1 C.2.1 hd (Int32.ofInt_toInt _).symm w
theorem a_i2s (hd : decode cc pc = .ok (.i2s, 1)) (k : AW G own cc nL ret X (pc + 1) ls (vI (iS x) :: st) M) : AW G own cc nL ret X pc ls (vI x :: st) M :=
  AW.pure (fun h0 => okS.cI (i32_in _) h0.tl) k fun _ p e s m args below meth c C H locs la w => lv_i2s C.1 C.2.1 hd (Int32.ofInt_toInt _).symm w
theorem a_i2l (hd : decode cc pc = .ok (.i2l, 1)) (k : AW G own cc nL ret X (pc + 1) ls (vL x :: st) M) : AW G own cc nL ret X pc ls (vI x :: st) M :=
  AW.pure (fun h0 => okS.cL (inI_L h0.hI) h0.tl) k fun h0 p e s m args below meth c C H locs la w => lv_i2l C.1 C.2.1 hd (by rw [← Int64.toInt_inj, Int32.toInt_toInt64, i32 h0.hI, i64 (inI_L h0.hI)]) w
theorem a_land (hd : decode cc pc = .ok (.land, 1)) (k : AW G own cc nL ret X (pc + 1) ls (vL (lAnd x y) :: st) M) : AW G own cc nL ret X pc ls (vL y :: vL x :: st) M :=
  AW.pure (fun h0 => okS.cL (i64_in _) h0.tl.tl) k fun _ p e s m args below meth c C H locs la w => lv_land C.1 C.2.1 hd (by rw [← Int64.ofInt_toInt (_ &&& _)]; exact w)
theorem a_lshl (hd : decode cc pc = .ok (.lshl, 1)) (k : AW G own cc nL ret X (pc + 1) ls (vL (lShl x y) :: st) M) : AW G own cc nL ret X pc ls (vI y :: vL x :: st) M :=
  AW.pure (fun h0 => okS.cL (i64_in _) h0.tl.tl) k fun _ p e s m args below meth c C H locs la w => lv_lshl C.1 C.2.1 hd (Int64.ofInt_toInt _).symm w
theorem a_lshr (hd : decode cc pc = .ok (.lshr, 1)) (k : AW G own cc nL ret X (pc + 1) ls (vL (lShr x y) :: st) M) : AW G own cc nL ret X pc ls (vI y :: vL x :: st) M :=
  AW.pure (fun h0 => okS.cL (i64_in _) h0.tl.tl) k fun _ p e s m args below meth c C H locs la w => lv_lshr C.1 C.2.1 hd (Int64.ofInt_toInt _).symm w
-- quotients, of what is not below 0
theorem tdiv_in {x y : Int} (h0 : 0 ≤ x) (h1 : 0 < y) : 0 ≤ x / y ∧ x / y ≤ x := ⟨Int.ediv_nonneg h0 (Int.le_of_lt h1), Int.ediv_le_self y h0⟩
theorem i32_div {x y : Int} (hx : inI x) (hy : inI y) (h0 : 0 ≤ x) (h1 : 0 < y) : Int32.ofInt x / Int32.ofInt y = Int32.ofInt (x / y) := by
  have hb := tdiv_in h0 h1
  have hxy : inI (x / y) := ⟨by omega, by have := hx.2; omega⟩
  rw [← Int32.toInt_inj, Int32.toInt_div, i32 hx, i32 hy, i32 hxy, Int.tdiv_eq_ediv_of_nonneg h0]
  exact Int.bmod_eq_of_le (by omega) (by have := hx.2; omega)
theorem i64_div {x y : Int} (hx : inL x) (hy : inL y) (h0 : 0 ≤ x) (h1 : 0 < y) : Int64.ofInt x / Int64.ofInt y = Int64.ofInt (x / y) := by
  have hb := tdiv_in h0 h1
  have hxy : inL (x / y) := ⟨by omega, by have := hx.2; omega⟩
  rw [← Int64.toInt_inj, Int64.toInt_div, i64 hx, i64 hy, i64 hxy, Int.tdiv_eq_ediv_of_nonneg h0]
  exact Int.bmod_eq_of_le (by omega) (by have := hx.2; omega)
theorem a_idiv (hd : decode cc pc = .ok (.idiv, 1)) (h0 : 0 ≤ x) (h1 : 0 < y) (k : AW G own cc nL ret X (pc + 1) ls (vI (x / y) :: st) M) : AW G own cc nL ret X pc ls (vI y :: vI x :: st) M :=
  AW.pure (fun h => okS.cI (show inI (x / y) from ⟨by have := tdiv_in h0 h1; omega, by have := tdiv_in h0 h1; have := h.hI2.2; omega⟩) h.tl.tl) k fun h p e s m args below meth c C H locs la w => lv_idiv C.1 C.2.1 hd (fun q => by have := (i32_eq0 h.hI).mp q; omega) (by rw [i32_div h.hI2 h.hI h0 h1]; exact w)
theorem a_irem (hd : decode cc pc = .ok (.irem, 1)) (h0 : 0 ≤ x) (h1 : 0 < y) (k : AW G own cc nL ret X (pc + 1) ls (vI (x % y) :: st) M) : AW G own cc nL ret X pc ls (vI y :: vI x :: st) M :=
  AW.pure (fun h => okS.cI (show inI (x % y) from ⟨by have := Int.emod_nonneg x (show y ≠ 0 by omega); omega, by have := Int.emod_lt_of_pos x h1; have := h.hI.2; omega⟩) h.tl.tl) k fun h p e s m args below meth c C H locs la w => lv_irem C.1 C.2.1 hd (fun q => by have := (i32_eq0 h.hI).mp q; omega) (by
    rw [i32_div h.hI2 h.hI h0 h1, ← Int32.ofInt_mul, ← Int32.ofInt_sub, show x - x / y * y = x % y from by rw [Int.mul_comm]; have := Int.mul_ediv_add_emod x y; omega]; exact w)
theorem a_ldiv (hd : decode cc pc = .ok (.ldiv, 1)) (h0 : 0 ≤ x) (h1 : 0 < y) (k : AW G own cc nL ret X (pc + 1) ls (vL (x / y) :: st) M) : AW G own cc nL ret X pc ls (vL y :: vL x :: st) M :=
  AW.pure (fun h => okS.cL (show inL (x / y) from ⟨by have := tdiv_in h0 h1; omega, by have := tdiv_in h0 h1; have := h.hL2.2; omega⟩) h.tl.tl) k fun h p e s m args below meth c C H locs la w => lv_ldiv C.1 C.2.1 hd (fun q => by
    have h2 := congrArg Int64.toInt q
    rw [i64 h.hL] at h2
    simp at h2
    omega) (by rw [i64_div h.hL2 h.hL h0 h1]; exact w)
theorem a_lrem (hd : decode cc pc = .ok (.lrem, 1)) (h0 : 0 ≤ x) (h1 : 0 < y) (k : AW G own cc nL ret X (pc + 1) ls (vL (x % y) :: st) M) : AW G own cc nL ret X pc ls (vL y :: vL x :: st) M :=
  AW.pure (fun h => okS.cL (show inL (x % y) from ⟨by have := Int.emod_nonneg x (show y ≠ 0 by omega); omega, by have := Int.emod_lt_of_pos x h1; have := h.hL.2; omega⟩) h.tl.tl) k fun h p e s m args below meth c C H locs la w => lv_lrem C.1 C.2.1 hd (fun q => by
    have h2 := congrArg Int64.toInt q
    rw [i64 h.hL] at h2
    simp at h2
    omega) (by
    rw [i64_div h.hL2 h.hL h0 h1, ← Int64.ofInt_mul, ← Int64.ofInt_sub, show x - x / y * y = x % y from by rw [Int.mul_comm]; have := Int.mul_ediv_add_emod x y; omega]; exact w)
-- stack
theorem a_dup {v : AV} (hd : decode cc pc = .ok (.dup, 1)) (hv : catV v = 1) (k : AW G own cc nL ret X (pc + 1) ls (v :: v :: st) M) : AW G own cc nL ret X pc ls (v :: st) M :=
  AW.pure (fun h => okS.cons h.hd h) k fun h p e s m args below meth c C H locs la w => lv_dup C.1 C.2.1 hd (by rw [catV_ok]; exact hv) w
theorem a_pop {v : AV} (hd : decode cc pc = .ok (.pop, 1)) (hv : catV v = 1) (k : AW G own cc nL ret X (pc + 1) ls st M) : AW G own cc nL ret X pc ls (v :: st) M :=
  AW.pure (fun h => h.tl) k fun h p e s m args below meth c C H locs la w => lv_pop C.1 C.2.1 hd (by rw [catV_ok]; exact hv) w
theorem a_dup2 {v u : AV} (hd : decode cc pc = .ok (.dup2, 1)) (hv : catV v = 1) (hu : catV u = 1) (k : AW G own cc nL ret X (pc + 1) ls (v :: u :: v :: u :: st) M) : AW G own cc nL ret X pc ls (v :: u :: st) M :=
  AW.pure (fun h => okS.cons h.hd (okS.cons h.tl.hd h)) k fun h p e s m args below meth c C H locs la w => lv_dup2_11 C.1 C.2.1 hd (by rw [catV_ok]; exact hv) (by rw [catV_ok]; exact hu) w
-- branches
theorem a_goto {off : Int} {tgt : Nat} (hd : decode cc pc = .ok (.goto off, 3)) (ht : (pc : Int) + off = (tgt : Int)) (k : AW G own cc nL ret X tgt ls st M) : AW G own cc nL ret X pc ls st M :=
  AW.pure id k fun _ p e s m args below meth c C H locs la w => lv_goto C.1 C.2.1 hd ht w
/-- two ways on -/
theorem AW.split {q : Prop} {p1 p2 : Nat} {st' : List AV} (hok : okS st → okS st') (kt : q → AW G own cc nL ret X p1 ls st' M) (kf : ¬ q → AW G own cc nL ret X p2 ls st' M)
    (step : okS st → ∀ (p : Program) (e : Env) (s : State) (m : MethodId) (args : Array Value) (below : List Frame) (meth : Method) (c : Code), Cx G own cc nL ret X p s m args meth c → ∀ (H : Heap) (locs : List Loc) (la : Array Slot),
      (q → W p G.1 e X.1.1 s m args below meth c H locs X.1.2.1 X.1.2.2 (X.2.2.2 below args s) (F0 m p1 la (gS G.2.2.1 st'))) → (¬ q → W p G.1 e X.1.1 s m args below meth c H locs X.1.2.1 X.1.2.2 (X.2.2.2 below args s) (F0 m p2 la (gS G.2.2.1 st'))) →
      W p G.1 e X.1.1 s m args below meth c H locs X.1.2.1 X.1.2.2 (X.2.2.2 below args s) (F0 m pc la (gS G.2.2.1 st))) : AW G own cc nL ret X pc ls st M :=
  fun hM hl hs p e s m args below meth c C H locs hP hS la hla => step hs p e s m args below meth c C H locs la (fun hq => kt hq hM hl (hok hs) p e s m args below meth c C H locs hP hS la hla) (fun hq => kf hq hM hl (hok hs) p e s m args below meth c C H locs hP hS la hla)
theorem a_ifeq {off : Int} {tgt : Nat} (hd : decode cc pc = .ok (.ifCond .eq off, 3)) (ht : (pc : Int) + off = (tgt : Int)) (kt : x = 0 → AW G own cc nL ret X tgt ls st M) (kf : ¬ x = 0 → AW G own cc nL ret X (pc + 3) ls st M) : AW G own cc nL ret X pc ls (vI x :: st) M :=
  AW.split okS.tl kt kf fun h p e s m args below meth c C H locs la w1 w2 => lv_if_eq C.1 C.2.1 hd ht (fun q => w1 ((i32_eq0 h.hI).mp q)) (fun q => w2 fun q2 => q ((i32_eq0 h.hI).mpr q2))
theorem a_ifne {off : Int} {tgt : Nat} (hd : decode cc pc = .ok (.ifCond .ne off, 3)) (ht : (pc : Int) + off = (tgt : Int)) (kt : ¬ x = 0 → AW G own cc nL ret X tgt ls st M) (kf : x = 0 → AW G own cc nL ret X (pc + 3) ls st M) : AW G own cc nL ret X pc ls (vI x :: st) M :=
  AW.split okS.tl kt (fun h => kf (Decidable.not_not.mp h)) fun h p e s m args below meth c C H locs la w1 w2 => lv_if_ne C.1 C.2.1 hd ht (fun q => w1 fun q2 => q ((i32_eq0 h.hI).mpr q2)) (fun q => w2 fun q2 => q2 ((i32_eq0 h.hI).mp q))
theorem a_iflt {off : Int} {tgt : Nat} (hd : decode cc pc = .ok (.ifCond .lt off, 3)) (ht : (pc : Int) + off = (tgt : Int)) (kt : x < 0 → AW G own cc nL ret X tgt ls st M) (kf : ¬ x < 0 → AW G own cc nL ret X (pc + 3) ls st M) : AW G own cc nL ret X pc ls (vI x :: st) M :=
  AW.split okS.tl kt kf fun h p e s m args below meth c C H locs la w1 w2 => lv_if_lt C.1 C.2.1 hd ht (fun q => w1 ((i32_lt0 h.hI).mp q)) (fun q => w2 fun q2 => q ((i32_lt0 h.hI).mpr q2))
theorem a_ifge {off : Int} {tgt : Nat} (hd : decode cc pc = .ok (.ifCond .ge off, 3)) (ht : (pc : Int) + off = (tgt : Int)) (kt : 0 ≤ x → AW G own cc nL ret X tgt ls st M) (kf : ¬ 0 ≤ x → AW G own cc nL ret X (pc + 3) ls st M) : AW G own cc nL ret X pc ls (vI x :: st) M :=
  AW.split okS.tl kt kf fun h p e s m args below meth c C H locs la w1 w2 => lv_if_ge C.1 C.2.1 hd ht (fun q => w1 ((i32_ge0 h.hI).mp q)) (fun q => w2 fun q2 => q ((i32_ge0 h.hI).mpr q2))
theorem a_ifgt {off : Int} {tgt : Nat} (hd : decode cc pc = .ok (.ifCond .gt off, 3)) (ht : (pc : Int) + off = (tgt : Int)) (kt : 0 < x → AW G own cc nL ret X tgt ls st M) (kf : ¬ 0 < x → AW G own cc nL ret X (pc + 3) ls st M) : AW G own cc nL ret X pc ls (vI x :: st) M :=
  AW.split okS.tl kt kf fun h p e s m args below meth c C H locs la w1 w2 => lv_if_gt C.1 C.2.1 hd ht (fun q => w1 ((i32_gt0 h.hI).mp q)) (fun q => w2 fun q2 => q ((i32_gt0 h.hI).mpr q2))
theorem a_ifle {off : Int} {tgt : Nat} (hd : decode cc pc = .ok (.ifCond .le off, 3)) (ht : (pc : Int) + off = (tgt : Int)) (kt : x ≤ 0 → AW G own cc nL ret X tgt ls st M) (kf : ¬ x ≤ 0 → AW G own cc nL ret X (pc + 3) ls st M) : AW G own cc nL ret X pc ls (vI x :: st) M :=
  AW.split okS.tl kt kf fun h p e s m args below meth c C H locs la w1 w2 => lv_if_le C.1 C.2.1 hd ht (fun q => w1 ((i32_le0 h.hI).mp q)) (fun q => w2 fun q2 => q ((i32_le0 h.hI).mpr q2))
theorem a_icmpeq {off : Int} {tgt : Nat} (hd : decode cc pc = .ok (.if_icmp .eq off, 3)) (ht : (pc : Int) + off = (tgt : Int)) (kt : x = y → AW G own cc nL ret X tgt ls st M) (kf : ¬ x = y → AW G own cc nL ret X (pc + 3) ls st M) : AW G own cc nL ret X pc ls (vI y :: vI x :: st) M :=
  AW.split (fun h => h.tl.tl) kt kf fun h p e s m args below meth c C H locs la w1 w2 => lv_icmp_eq C.1 C.2.1 hd ht (fun q => w1 ((i32_eq h.hI2 h.hI).mp q)) (fun q => w2 fun q2 => q ((i32_eq h.hI2 h.hI).mpr q2))
theorem a_icmpne {off : Int} {tgt : Nat} (hd : decode cc pc = .ok (.if_icmp .ne off, 3)) (ht : (pc : Int) + off = (tgt : Int)) (kt : ¬ x = y → AW G own cc nL ret X tgt ls st M) (kf : x = y → AW G own cc nL ret X (pc + 3) ls st M) : AW G own cc nL ret X pc ls (vI y :: vI x :: st) M :=
  AW.split (fun h => h.tl.tl) kt (fun h => kf (Decidable.not_not.mp h)) fun h p e s m args below meth c C H locs la w1 w2 => lv_icmp_ne C.1 C.2.1 hd ht (fun q => w1 fun q2 => q ((i32_eq h.hI2 h.hI).mpr q2)) (fun q => w2 fun q2 => q2 ((i32_eq h.hI2 h.hI).mp q))
theorem a_icmplt {off : Int} {tgt : Nat} (hd : decode cc pc = .ok (.if_icmp .lt off, 3)) (ht : (pc : Int) + off = (tgt : Int)) (kt : x < y → AW G own cc nL ret X tgt ls st M) (kf : ¬ x < y → AW G own cc nL ret X (pc + 3) ls st M) : AW G own cc nL ret X pc ls (vI y :: vI x :: st) M :=
  AW.split (fun h => h.tl.tl) kt kf fun h p e s m args below meth c C H locs la w1 w2 => lv_icmp_lt C.1 C.2.1 hd ht (fun q => w1 ((i32_lt h.hI2 h.hI).mp q)) (fun q => w2 fun q2 => q ((i32_lt h.hI2 h.hI).mpr q2))
theorem a_icmpge {off : Int} {tgt : Nat} (hd : decode cc pc = .ok (.if_icmp .ge off, 3)) (ht : (pc : Int) + off = (tgt : Int)) (kt : y ≤ x → AW G own cc nL ret X tgt ls st M) (kf : ¬ y ≤ x → AW G own cc nL ret X (pc + 3) ls st M) : AW G own cc nL ret X pc ls (vI y :: vI x :: st) M :=
  AW.split (fun h => h.tl.tl) kt kf fun h p e s m args below meth c C H locs la w1 w2 => lv_icmp_ge C.1 C.2.1 hd ht (fun q => w1 ((i32_le h.hI h.hI2).mp q)) (fun q => w2 fun q2 => q ((i32_le h.hI h.hI2).mpr q2))
theorem a_icmpgt {off : Int} {tgt : Nat} (hd : decode cc pc = .ok (.if_icmp .gt off, 3)) (ht : (pc : Int) + off = (tgt : Int)) (kt : y < x → AW G own cc nL ret X tgt ls st M) (kf : ¬ y < x → AW G own cc nL ret X (pc + 3) ls st M) : AW G own cc nL ret X pc ls (vI y :: vI x :: st) M :=
  AW.split (fun h => h.tl.tl) kt kf fun h p e s m args below meth c C H locs la w1 w2 => lv_icmp_gt C.1 C.2.1 hd ht (fun q => w1 ((i32_lt h.hI h.hI2).mp q)) (fun q => w2 fun q2 => q ((i32_lt h.hI h.hI2).mpr q2))
theorem a_icmple {off : Int} {tgt : Nat} (hd : decode cc pc = .ok (.if_icmp .le off, 3)) (ht : (pc : Int) + off = (tgt : Int)) (kt : x ≤ y → AW G own cc nL ret X tgt ls st M) (kf : ¬ x ≤ y → AW G own cc nL ret X (pc + 3) ls st M) : AW G own cc nL ret X pc ls (vI y :: vI x :: st) M :=
  AW.split (fun h => h.tl.tl) kt kf fun h p e s m args below meth c C H locs la w1 w2 => lv_icmp_le C.1 C.2.1 hd ht (fun q => w1 ((i32_le h.hI2 h.hI).mp q)) (fun q => w2 fun q2 => q ((i32_le h.hI2 h.hI).mpr q2))
/-- a truth as an int -/
def bI (b : Prop) [Decidable b] : Int := if b then 1 else 0
theorem bI_1 {b : Prop} [Decidable b] (h : b) : bI b = 1 := if_pos h
theorem bI_0 {b : Prop} [Decidable b] (h : ¬ b) : bI b = 0 := if_neg h
theorem bI_z {b : Prop} [Decidable b] : bI b = 0 ↔ ¬ b := by
  unfold bI
  by_cases h : b
  · simp [h]
  · simp [h]
theorem bI_r (b : Prop) [Decidable b] : bI b = 0 ∨ bI b = 1 := by
  unfold bI
  by_cases h : b
  · simp [h]
  · simp [h]
theorem a_ifeqB {b : Prop} [Decidable b] {off : Int} {tgt : Nat} (hd : decode cc pc = .ok (.ifCond .eq off, 3)) (ht : (pc : Int) + off = (tgt : Int)) (kt : ¬ b → AW G own cc nL ret X tgt ls st M) (kf : b → AW G own cc nL ret X (pc + 3) ls st M) : AW G own cc nL ret X pc ls (vI (bI b) :: st) M :=
  a_ifeq hd ht (fun h => kt (bI_z.mp h)) (fun h => kf (Decidable.not_not.mp fun h2 => h (bI_z.mpr h2)))
theorem a_ifneB {b : Prop} [Decidable b] {off : Int} {tgt : Nat} (hd : decode cc pc = .ok (.ifCond .ne off, 3)) (ht : (pc : Int) + off = (tgt : Int)) (kt : b → AW G own cc nL ret X tgt ls st M) (kf : ¬ b → AW G own cc nL ret X (pc + 3) ls st M) : AW G own cc nL ret X pc ls (vI (bI b) :: st) M :=
  a_ifne hd ht (fun h => kt (Decidable.not_not.mp fun h2 => h (bI_z.mpr h2))) (fun h => kf (bI_z.mp h))
/-- which long is greater -/
def cmpI (x y : Int) : Int := if x > y then 1 else if x = y then 0 else -1
theorem cmpI_in (x y : Int) : inI (cmpI x y) := by
  unfold cmpI
  by_cases h : x > y
  · rw [if_pos h]; exact ⟨by decide, by decide⟩
  · rw [if_neg h]
    by_cases h2 : x = y
    · rw [if_pos h2]; exact ⟨by decide, by decide⟩
    · rw [if_neg h2]; exact ⟨by decide, by decide⟩
theorem lg_cmpI {x y : Int} (hx : inL x) (hy : inL y) : lg_cmp (Int64.ofInt x) (Int64.ofInt y) = Int32.ofInt (cmpI x y) := by
  unfold lg_cmp cmpI
  have h1 : Int64.ofInt x > Int64.ofInt y ↔ x > y := by rw [gt_iff_lt, Int64.lt_iff_toInt_lt, i64 hx, i64 hy]
  have h2 : Int64.ofInt x = Int64.ofInt y ↔ x = y := by rw [← Int64.toInt_inj, i64 hx, i64 hy]
  by_cases h : x > y
  · rw [if_pos h, if_pos (h1.mpr h)]; rfl
  · rw [if_neg h, if_neg fun q => h (h1.mp q)]
    by_cases h3 : x = y
    · rw [if_pos h3, if_pos (h2.mpr h3)]; rfl
    · rw [if_neg h3, if_neg fun q => h3 (h2.mp q)]; rfl
theorem cmpI_lt {x y : Int} : cmpI x y < 0 ↔ x < y := by unfold cmpI; split <;> (try split) <;> omega
theorem cmpI_ge {x y : Int} : 0 ≤ cmpI x y ↔ y ≤ x := by unfold cmpI; split <;> (try split) <;> omega
theorem cmpI_gt {x y : Int} : 0 < cmpI x y ↔ y < x := by unfold cmpI; split <;> (try split) <;> omega
theorem cmpI_le {x y : Int} : cmpI x y ≤ 0 ↔ x ≤ y := by unfold cmpI; split <;> (try split) <;> omega
theorem cmpI_eq {x y : Int} : cmpI x y = 0 ↔ x = y := by unfold cmpI; split <;> (try split) <;> omega
theorem a_lcmp (hd : decode cc pc = .ok (.lcmp, 1)) (k : AW G own cc nL ret X (pc + 1) ls (vI (cmpI x y) :: st) M) : AW G own cc nL ret X pc ls (vL y :: vL x :: st) M :=
  AW.pure (fun h => okS.cI (cmpI_in x y) h.tl.tl) k fun h p e s m args below meth c C H locs la w => W.lcmp C.1 C.2.1 hd (by rw [lg_cmpI h.hL2 h.hL]; exact w)
-- switches
theorem a_tabIn {dflt lo hi : Int} {offs : Array Int} {len : Nat} {off : Int} {tgt : Nat} (hd : decode cc pc = .ok (.tableswitch dflt lo hi offs, len)) (h1 : ¬ x < lo) (h2 : ¬ hi < x) (ho : offs[(x - lo).toNat]? = some off) (ht : (pc : Int) + off = (tgt : Int)) (k : AW G own cc nL ret X tgt ls st M) : AW G own cc nL ret X pc ls (vI x :: st) M :=
  AW.pure okS.tl k fun h p e s m args below meth c C H locs la w => lv_tableIn C.1 C.2.1 hd (by rw [i32 h.hI]; exact h1) (by rw [i32 h.hI]; exact h2) (by rw [i32 h.hI]; exact ho) ht w
theorem a_tabOut {dflt lo hi : Int} {offs : Array Int} {len : Nat} {tgt : Nat} (hd : decode cc pc = .ok (.tableswitch dflt lo hi offs, len)) (h1 : x < lo ∨ hi < x) (ht : (pc : Int) + dflt = (tgt : Int)) (k : AW G own cc nL ret X tgt ls st M) : AW G own cc nL ret X pc ls (vI x :: st) M :=
  AW.pure okS.tl k fun h p e s m args below meth c C H locs la w => lv_tableOut C.1 C.2.1 hd (by rw [i32 h.hI]; exact h1) ht w
end Rows
