/-! ===== abstract values, memory, the fixed layout of the cells (class 0..43, reference 44..) ===== -/
abbrev Mem : Type := Nat → Int → Int
abbrev AV : Type := Int ⊕ (Int ⊕ Nat)
def vI (x : Int) : AV := .inl x
def vL (x : Int) : AV := .inr (.inl x)
def vR (k : Nat) : AV := .inr (.inr k)
def inI (x : Int) : Prop := -2147483648 ≤ x ∧ x ≤ 2147483647
def inL (x : Int) : Prop := -9223372036854775808 ≤ x ∧ x ≤ 9223372036854775807
def inB (x : Int) : Bool := decide (-2147483648 ≤ x) && decide (x ≤ 2147483647)
theorem inB_ok {x : Int} (h : inB x = true) : inI x := by
  simp only [inB, Bool.and_eq_true, decide_eq_true_eq] at h
  exact h
theorem inI_L {x : Int} (h : inI x) : inL x := ⟨by have := h.1; omega, by have := h.2; omega⟩
def okV (v : AV) : Prop := match v with
  | .inl x => inI x
  | .inr (.inl x) => inL x
  | .inr (.inr _) => True
def okM (M : Mem) : Prop := ∀ (k : Nat) (i : Int), inI (M k i)
def okS (st : List AV) : Prop := ∀ v ∈ st, okV v
def okL (ls : List (Nat × AV)) : Prop := ∀ q ∈ ls, okV q.2
theorem okS.tl {v : AV} {st : List AV} (h : okS (v :: st)) : okS st := fun w hw => h w (List.mem_cons_of_mem _ hw)
theorem okS.hd {v : AV} {st : List AV} (h : okS (v :: st)) : okV v := h v List.mem_cons_self
theorem okS.cons {v : AV} {st : List AV} (h1 : okV v) (h : okS st) : okS (v :: st) := fun w hw => by
  rcases List.mem_cons.mp hw with rfl | hw
  · exact h1
  · exact h w hw
theorem okS.hI {x : Int} {st : List AV} (h : okS (vI x :: st)) : inI x := h.hd
theorem okS.hI2 {x : Int} {v : AV} {st : List AV} (h : okS (v :: vI x :: st)) : inI x := h.tl.hd
theorem okS.hL {x : Int} {st : List AV} (h : okS (vL x :: st)) : inL x := h.hd
theorem okS.hL2 {x : Int} {v : AV} {st : List AV} (h : okS (v :: vL x :: st)) : inL x := h.tl.hd
theorem okS.nil : okS [] := fun _ h => by cases h
def gV (σ : Nat → Nat) (v : AV) : Value := match v with
  | .inl x => .int (Int32.ofInt x)
  | .inr (.inl x) => .long (Int64.ofInt x)
  | .inr (.inr k) => .ref (σ k)
def gS (σ : Nat → Nat) (st : List AV) : List Value := st.map (gV σ)
def gL (σ : Nat → Nat) (ls : List (Nat × AV)) : List (Nat × Value) := ls.map fun q => (q.1, gV σ q.2)
def catV (v : AV) : Nat := match v with
  | .inr (.inl _) => 2
  | _ => 1
theorem catV_ok (σ : Nat → Nat) (v : AV) : (gV σ v).category = catV v := by
  rcases v with x | x | k <;> rfl
def catS (st : List AV) : Nat := (st.map catV).sum
theorem catS_ok (σ : Nat → Nat) (st : List AV) : ((gS σ st).map fun v => v.category).sum = catS st := by
  unfold gS catS
  rw [List.map_map]
  congr 1
  exact List.map_congr_left fun v _ => catV_ok σ v
theorem i32 {x : Int} (h : inI x) : (Int32.ofInt x).toInt = x := Int32.toInt_ofInt_of_le (by have := h.1; omega) (by have := h.2; omega)
theorem i64 {x : Int} (h : inL x) : (Int64.ofInt x).toInt = x := Int64.toInt_ofInt_of_le (by have := h.1; omega) (by have := h.2; omega)
theorem i32_in (z : Int32) : inI z.toInt := ⟨by have := z.le_toInt; omega, by have := z.toInt_lt; omega⟩
theorem i64_in (z : Int64) : inL z.toInt := ⟨by have := z.le_toInt; omega, by have := z.toInt_lt; omega⟩
theorem i32_lt {x y : Int} (hx : inI x) (hy : inI y) : Int32.ofInt x < Int32.ofInt y ↔ x < y := by rw [Int32.lt_iff_toInt_lt, i32 hx, i32 hy]
theorem i32_le {x y : Int} (hx : inI x) (hy : inI y) : Int32.ofInt x ≤ Int32.ofInt y ↔ x ≤ y := by rw [Int32.le_iff_toInt_le, i32 hx, i32 hy]
theorem i32_eq {x y : Int} (hx : inI x) (hy : inI y) : Int32.ofInt x = Int32.ofInt y ↔ x = y := by rw [← Int32.toInt_inj, i32 hx, i32 hy]
theorem in0 : inI 0 := ⟨by decide, by decide⟩
theorem i32_lt0 {x : Int} (hx : inI x) : Int32.ofInt x < 0 ↔ x < 0 := i32_lt (y := 0) hx in0
theorem i32_gt0 {x : Int} (hx : inI x) : 0 < Int32.ofInt x ↔ 0 < x := i32_lt (x := 0) in0 hx
theorem i32_le0 {x : Int} (hx : inI x) : Int32.ofInt x ≤ 0 ↔ x ≤ 0 := i32_le (y := 0) hx in0
theorem i32_ge0 {x : Int} (hx : inI x) : 0 ≤ Int32.ofInt x ↔ 0 ≤ x := i32_le (x := 0) in0 hx
theorem i32_eq0 {x : Int} (hx : inI x) : Int32.ofInt x = 0 ↔ x = 0 := i32_eq (y := 0) hx in0
theorem i32_nat {x : Int} (hx : inI x) : (Int32.ofInt x).toNatClampNeg = x.toNat := Int32.toNatClampNeg_ofInt_of_le (by have := hx.1; omega) (by have := hx.2; omega)
/-! memory -/
def ups (f : Int → Int) (i v : Int) : Int → Int := fun j => if j = i then v else f j
def upc (M : Mem) (k : Nat) (f : Int → Int) : Mem := fun c => if c = k then f else M c
def upm (M : Mem) (k : Nat) (i v : Int) : Mem := upc M k (ups (M k) i v)
theorem upc_same (M : Mem) (k : Nat) (f : Int → Int) : upc M k f k = f := if_pos rfl
theorem upc_ne {M : Mem} {k c : Nat} {f : Int → Int} (h : c ≠ k) : upc M k f c = M c := if_neg h
theorem upm_same (M : Mem) (k : Nat) (i v : Int) : upm M k i v k = ups (M k) i v := if_pos rfl
theorem upm_ne {M : Mem} {k c : Nat} {i v : Int} (h : c ≠ k) : upm M k i v c = M c := if_neg h
theorem ups_same (f : Int → Int) (i v : Int) : ups f i v i = v := if_pos rfl
theorem ups_ne {f : Int → Int} {i v j : Int} (h : j ≠ i) : ups f i v j = f j := if_neg h
theorem okM.up {M : Mem} {k : Nat} {i v : Int} (h : okM M) (hv : inI v) : okM (upm M k i v) := by
  intro c j
  by_cases hc : c = k
  · subst hc
    rw [upm_same]
    by_cases hj : j = i
    · subst hj; rw [ups_same]; exact hv
    · rw [ups_ne hj]; exact h c j
  · rw [upm_ne hc]; exact h c j
/-! the layout -/
abbrev LC : Type := Nat ⊕ ((Nat × List (Option Nat)) ⊕ List Nat)
def layL : List LC := [.inr (.inl (5, [some 1, some 2, some 3, some 4, some 5, some 6, some 7, some 8, some 9, none, none])), .inr (.inl (3, [some 14, some 15, some 16, some 17, none, none, none])), .inr (.inl (4, [some 18, some 19, some 20, none])), .inr (.inl (4, [some 21, some 22, some 23, none])), .inr (.inl (1, [some 24, some 25, some 26, some 27, some 28, some 29, some 30, some 31, none, none, none, none, none, none, none])), .inr (.inl (1, [some 32, some 33, some 34, some 35, some 36, some 37, some 38, some 39, none, none, none, none, none, none, none])), .inr (.inl (0, [none, none])), .inr (.inr [10, 11, 12, 13]), .inl 160, .inl 256, .inr (.inl (2, [some 40, none, none])), .inr (.inl (2, [some 41, none, none])), .inr (.inl (2, [some 42, none, none])), .inr (.inl (2, [some 43, none, none])), .inl 31, .inl 8, .inl 8, .inl 8, .inl 8, .inl 8, .inl 8, .inl 8, .inl 8, .inl 8, .inl 8, .inl 8, .inl 8, .inl 16, .inl 8, .inl 8, .inl 12, .inl 128, .inl 8, .inl 8, .inl 8, .inl 16, .inl 8, .inl 8, .inl 12, .inl 128, .inl 60, .inl 60, .inl 60, .inl 60, .inr (.inl (6, [some 45, some 46, some 47, some 48, none, some 49, none, none, some 50, none, some 51, none, none, none, none, some 52, some 53, some 54, some 55, some 56, some 57, some 58, some 59, none, none, none, none, none, none, some 60, some 61, none, some 62])), .inl 4, .inl 4, .inl 240, .inl 60, .inl 32, .inl 24, .inl 24, .inl 8, .inl 8, .inl 8, .inl 8, .inl 128, .inl 128, .inl 128, .inl 128, .inl 24, .inl 128, .inl 24]
def isA (k n : Nat) : Prop := layL[k]? = some (.inl n)
def isR (k ci i j : Nat) : Prop := ∃ fs, layL[k]? = some (.inr (.inl (ci, fs))) ∧ fs[i]? = some (some j)
def isI (k ci i : Nat) : Prop := ∃ fs, layL[k]? = some (.inr (.inl (ci, fs))) ∧ fs[i]? = some none
def isO (k ci : Nat) : Prop := ∃ fs, layL[k]? = some (.inr (.inl (ci, fs)))
def cellF (σ : Nat → Nat) (M : Mem) (k : Nat) (p : Option Nat × Nat) : Value := match p.1 with
  | some j => .ref (σ j)
  | none => .int (Int32.ofInt (M k (p.2 : Int)))
def cellE (cA cR : ClassId) (σ : Nat → Nat) (M : Mem) (k : Nat) (x : LC) : va_E := match x with
  | .inl n => .inl (cA, n, .inl (fun j => Int32.ofInt (M k (j : Int))))
  | .inr (.inl o) => .inr (o.1, o.2.zipIdx.map (cellF σ M k))
  | .inr (.inr rs) => .inl (cR, rs.length, .inr (.inr (.inr (.inr (fun j => (rs[j]?).map σ)))))
abbrev GT : Type := Launch × va_G × (Nat → Nat) × ClassId × ClassId
def wd (G : GT) (M : Mem) : va_W := layL.zipIdx.map fun p => (G.2.2.1 p.2, cellE G.2.2.2.1 G.2.2.2.2 G.2.2.1 M p.2 p.1)
theorem wd_at {G : GT} {M : Mem} {k : Nat} {x : LC} (h : layL[k]? = some x) : (wd G M)[k]? = some (G.2.2.1 k, cellE G.2.2.2.1 G.2.2.2.2 G.2.2.1 M k x) := by
  simp [wd, h]
theorem wd_inv {G : GT} {M : Mem} {k : Nat} {q : Nat × va_E} (h : (wd G M)[k]? = some q) : k < 63 ∧ ∃ x, layL[k]? = some x ∧ q = (G.2.2.1 k, cellE G.2.2.2.1 G.2.2.2.2 G.2.2.1 M k x) := by
  cases hx : layL[k]? with
  | none => simp [wd, hx] at h
  | some x =>
    rw [wd_at hx] at h
    exact ⟨(List.getElem?_eq_some_iff.mp hx).1, x, rfl, (Option.some.inj h).symm⟩
theorem fld_at {σ : Nat → Nat} {M : Mem} {k i : Nat} {fs : List (Option Nat)} {r : Option Nat} (h : fs[i]? = some r) : (fs.zipIdx.map (cellF σ M k))[i]? = some (cellF σ M k (r, i)) := by
  simp [h]
def tysG (G : GT) : List (ClassId × FieldType) := [(G.2.2.2.1, .int), (G.2.2.2.2, .object "PartingMap$Row")]
def HP (G : GT) (M : Mem) (H : Heap) : Prop := va_P G.2.1 cls7 (wd G M) H
def HK (G : GT) (U : State) : Prop := va_K G.2.1 cls7 (tysG G) U
def HD (G : GT) (A : Nat → Prop) : Prop := (∀ i j : Nat, i < 63 → j < 63 → G.2.2.1 i = G.2.2.1 j → i = j) ∧ ∀ k : Nat, k < 63 → A (G.2.2.1 k)
theorem HD.to {G : GT} {A : Nat → Prop} (h : HD G A) (M : Mem) : va_D A (wd G M) := by
  refine ⟨fun i j p q hp hq e => ?_, fun k q hq => ?_⟩
  · obtain ⟨h1, x, -, rfl⟩ := wd_inv hp
    obtain ⟨h2, y, -, rfl⟩ := wd_inv hq
    exact h.1 i j h1 h2 e
  · obtain ⟨h1, x, -, rfl⟩ := wd_inv hq
    exact h.2 k h1
/-- the nest mates' links -/
def NW (U : State) : Prop := va_Nw (.methodLinkNest RX3 35 yX5_hasBit "PartingMap") U ∧ va_Nw (.methodLinkNest RX1 63 yX5_hasBit "PartingMap") U ∧ va_Nw (.methodLinkNest RX2 22 yX5_isBelow "PartingMap") U
theorem NW.warm {s U : State} (hW : s.WarmedH U.vm) (h : NW s) : NW U := ⟨va_Nw.warmM hW h.1, va_Nw.warmM hW h.2.1, va_Nw.warmM hW h.2.2⟩
theorem NW.same {s U : State} (e : s.vm = U.vm) (h : NW s) : NW U := ⟨va_Nw.same rfl e h.1, va_Nw.same rfl e h.2.1, va_Nw.same rfl e h.2.2⟩
def AS (G : GT) : Nat → Prop := fun q => ∃ k : Nat, k < 63 ∧ q = G.2.2.1 k
theorem HD.own {G : GT} {A : Nat → Prop} (h : HD G A) : HD G (AS G) := ⟨h.1, fun k hk => ⟨k, hk, rfl⟩⟩
/-- room of a method by its height -/
def rmL (lev : Nat) : Room := { frames := lev, cells := 0, slots := 0, locals := 40 * lev }
/-- what differs between a method's walk and the law's: room, cells, slots; places that may change; more about the start; the end -/
abbrev XT : Type := (Room × Nat × Nat) × (State → Nat → Prop) × (State → Array Value → Prop) × (List Frame → Array Value → State → State → Prop)
def Cx (G : GT) (own : String) (cc : ByteArray) (nL : Nat) (ret : Option FieldType) (X : XT) (p : Program) (s : State) (m : MethodId) (args : Array Value) (meth : Method) (c : Code) : Prop :=
  p.tables.exec = Jvm.exec ∧ c.code = cc ∧ meth.sig.returnType = ret ∧ c.maxLocals = nL ∧ s.vm.findClass own = some m.cls ∧ (∀ w ∈ gw, w.before args s = true) ∧ meth.locks = false ∧ HK G s ∧ HD G (X.2.1 s) ∧ NW s ∧ X.2.2.1 s args
/-- THE JUDGEMENT: from pc, with these locals, this stack, this memory, the walk comes to its end -/
def AW (G : GT) (own : String) (cc : ByteArray) (nL : Nat) (ret : Option FieldType) (X : XT) (pc : Nat) (ls : List (Nat × AV)) (st : List AV) (M : Mem) : Prop :=
  okM M → okL ls → okS st → ∀ (p : Program) (e : Env) (s : State) (m : MethodId) (args : Array Value) (below : List Frame) (meth : Method) (c : Code), Cx G own cc nL ret X p s m args meth c →
    ∀ (H : Heap) (locs : List Loc), HP G M H → va_S (X.2.1 s) s.heap H locs → ∀ la : Array Slot, lv_has la nL (gL G.2.2.1 ls) →
      W p G.1 e X.1.1 s m args below meth c H locs X.1.2.1 X.1.2.2 (X.2.2.2 below args s) (F0 m pc la (gS G.2.2.1 st))
def PC (G : GT) (M : Mem) (as : List AV) : Array Value → State → Prop := fun v U => v = (gS G.2.2.1 as).toArray ∧ HP G M U.heap ∧ HK G U ∧ HD G (AS G) ∧ NW U
def QC (G : GT) (Post : Option AV → Mem → Prop) : Array Value → State → Outcome → State → Prop := fun _ st o t =>
  (∃ (r : Option AV) (M' : Mem), o = .returned (r.map (gV G.2.2.1)) ∧ Post r M' ∧ okM M' ∧ (∀ v, r = some v → okV v) ∧ HP G M' t.heap) ∧ va_F (AS G) st t
/-- a contract: method y from memory M with these arguments comes to Post -/
def AM (G : GT) (y : MethodName) (cc : ByteArray) (nL : Nat) (ret : Option FieldType) (lev : Nat) (M : Mem) (as : List AV) (Post : Option AV → Mem → Prop) : Prop :=
  okM M → okS as → Met G.1 y (.code y cc nL ret :: gw) (rmL lev) (PC G M as) (QC G Post) 0 0 (AS G)
def XM (G : GT) (lev : Nat) (Post : Option AV → Mem → Prop) : XT := ((rmL lev, 0, 0), (fun _ => AS G), (fun _ _ => True), fun below args s => MQ below (QC G Post) args s 0 0 (AS G))
def pI (P : Int → Mem → Prop) : Option AV → Mem → Prop := fun r M => ∃ x, r = some (vI x) ∧ P x M
def pL (P : Int → Mem → Prop) : Option AV → Mem → Prop := fun r M => ∃ x, r = some (vL x) ∧ P x M
def pV (P : Mem → Prop) : Option AV → Mem → Prop := fun r M => r = none ∧ P M
def lar : Nat → List AV → List (Nat × AV)
  | _, [] => []
  | i, v :: r => (i, v) :: lar (if catV v = 2 then i + 2 else i + 1) r
theorem lar_ok (σ : Nat → Nat) : ∀ (as : List AV) (i : Nat), lv_args i (gS σ as) = gL σ (lar i as)
  | [], i => rfl
  | v :: r, i => by
    show (i, gV σ v) :: lv_args (if (gV σ v).category = 2 then i + 2 else i + 1) (gS σ r) = (i, gV σ v) :: gL σ (lar (if catV v = 2 then i + 2 else i + 1) r)
    rw [catV_ok, lar_ok σ r]
theorem lar_okL {as : List AV} (h : okS as) : ∀ i, okL (lar i as) := by
  induction as with
  | nil => exact fun i q hq => by cases hq
  | cons v r ih =>
    intro i q hq
    rcases List.mem_cons.mp hq with rfl | hq
    · exact h.hd
    · exact ih h.tl _ q hq
theorem lar_len (σ : Nat → Nat) (as : List AV) : (lg_sl (gS σ as)).length = catS as := by
  induction as with
  | nil => rfl
  | cons v r ih =>
    have e : lg_sl (gS σ (v :: r)) = (if (gV σ v).category = 2 then [.val (gV σ v), .second] else [.val (gV σ v)]) ++ lg_sl (gS σ r) := rfl
    have e2 : catS (v :: r) = catV v + catS r := rfl
    rw [e, e2, List.length_append, ih, catV_ok]
    rcases v with x | x | k <;> rfl
theorem AM.mk {G : GT} {y : MethodName} {cc : ByteArray} {nL : Nat} {ret : Option FieldType} {lev : Nat} {M : Mem} {as : List AV} {Post : Option AV → Mem → Prop} {own : String} (ho : y.cls = own) (hp : plainName y.cls = true) (hn : catS as ≤ nL) {ls : List (Nat × AV)} (hls : lar 0 as = ls)
    (h : AW G own cc nL ret (XM G lev Post) 0 ls [] M) : AM G y cc nL ret lev M as Post := by
  intro hM hA
  refine Met.ofW (cc := cc) (maxL := nL) (ret := ret) hp rfl ?_
  intro p e s m args below meth c s₁ B hml hv
  obtain ⟨rfl, hP, hK, hD, hN⟩ := hv
  have hts := atoms_spec (ws := .code y cc nL ret :: gw) B.pre
  have hown : s.vm.findClass y.cls = some m.cls := findClass_of_methodNamed B.named
  rw [ho] at hown
  have hl := lv_entry (gS G.2.2.1 as) (n := nL) (by rw [lar_len]; exact hn)
  rw [lg_entry_eq]
  rw [lar_ok, hls] at hl
  exact h hM (hls ▸ lar_okL hA 0) okS.nil p e s m _ below meth c ⟨B.exec, B.bytes, B.returns, hml, hown, fun w hw => hts w (List.mem_cons_of_mem _ hw), B.notSynchronized, hK, hD, hN, trivial⟩ s.heap [] hP va_S.rf _ hl
theorem AM.weaken {G : GT} {y : MethodName} {cc : ByteArray} {nL : Nat} {ret : Option FieldType} {lev : Nat} {M : Mem} {as : List AV} {Post Post' : Option AV → Mem → Prop} (h : AM G y cc nL ret lev M as Post) (hp : ∀ r M', Post r M' → Post' r M') : AM G y cc nL ret lev M as Post' := by
  intro hM hA
  have h1 := h hM hA
  intro p e ha hc hk s m args below hf hq hP hT
  obtain ⟨t, o, a1, a2, a3, a4, a5⟩ := h1 p e ha hc hk s m args below hf hq hP hT
  refine ⟨t, o, a1, a2, a3, ?_, a5⟩
  obtain ⟨⟨r, M', b1, b2, b3⟩, b4⟩ := a4
  exact ⟨⟨r, M', b1, hp r M' b2, b3⟩, b4⟩
