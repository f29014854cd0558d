/-! ===== the law: rows of its own ===== -/
/-- the script's j-th int -/
def sc (xs : Nat → Int32) (j : Int) : Int := (xs j.toNat).toInt
def XL (G : GT) (b L : Nat) (xs : Nat → Int32) : XT := ((room_1, 600000, 7302250), (fun s q => s.heap.size ≤ q), (fun s args => args = #[Value.ref b] ∧ va_X b L xs s s.heap ∧ b < s.heap.size ∧ G.2.2.1 63 = b), fun below args s => lw_Z below args s)
section LR
variable {G : GT} {b L : Nat} {xs : Nat → Int32} {pc : Nat} {ls : List (Nat × AV)} {st : List AV} {M : Mem} {i : Int}
theorem a_sld (hd : decode code pc = .ok (.iaload, 1)) (h : 0 ≤ i ∧ i < L) (kk : AW G R_law code 4 ret (XL G b L xs) (pc + 1) ls (vI (sc xs i) :: st) M) : AW G R_law code 4 ret (XL G b L xs) pc ls (vI i :: vR 63 :: st) M := by
  intro hM hl hs p e s m args below meth c C H locs hP hS la hla
  have w := kk hM hl (okS.cI (i32_in _) hs.tl.tl) p e s m args below meth c C H locs hP hS la hla
  obtain ⟨hx, hb, -, -, -, -, -, -, -, -, -, hx1, hbl, h63⟩ := C
  have e1 : gS G.2.2.1 (vI i :: vR 63 :: st) = .int (Int32.ofInt i) :: .ref b :: gS G.2.2.1 st := by
    show Value.int (Int32.ofInt i) :: Value.ref (G.2.2.1 63) :: gS G.2.2.1 st = _
    rw [h63]
  have e2 : gS G.2.2.1 (vI (sc xs i) :: st) = .int (xs i.toNat) :: gS G.2.2.1 st := by
    show Value.int (Int32.ofInt (xs i.toNat).toInt) :: gS G.2.2.1 st = _
    rw [Int32.ofInt_toInt]
  rw [e1]
  rw [e2] at w
  refine va_sld hx hb hx1 hbl (Nat.not_le.mpr hbl) hS (vp_inZ hs.hI h.1 h.2) hd ?_
  rw [i32_nat hs.hI]
  exact w
theorem a_slen (hd : decode code pc = .ok (.arraylength, 1)) (h : L ≤ 3072) (kk : AW G R_law code 4 ret (XL G b L xs) (pc + 1) ls (vI (L : Int) :: st) M) : AW G R_law code 4 ret (XL G b L xs) pc ls (vR 63 :: st) M := by
  intro hM hl hs p e s m args below meth c C H locs hP hS la hla
  have w := kk hM hl (okS.cI ⟨by omega, by omega⟩ hs.tl) p e s m args below meth c C H locs hP hS la hla
  obtain ⟨hx, hb, -, -, -, -, -, -, -, -, -, hx1, hbl, h63⟩ := C
  have e1 : gS G.2.2.1 (vR 63 :: st) = .ref b :: gS G.2.2.1 st := by
    show Value.ref (G.2.2.1 63) :: gS G.2.2.1 st = _
    rw [h63]
  rw [e1]
  refine va_slen hx hb hx1 hbl (Nat.not_le.mpr hbl) hS hd ?_
  rw [← Int32.ofInt_eq_ofNat]
  exact w
theorem a_lend (hd : decode code pc = .ok (.ireturn, 1)) : AW G R_law code 4 ret (XL G b L xs) pc ls [vI 1] M := by
  intro hM hl hs p e s m args below meth c C H locs hP hS la hla
  obtain ⟨hx, hb, hr, -, -, -, hlocks, -, -, -, rfl, -⟩ := C
  refine va_forget (fun q hq => hS.2.2 q hq) ?_
  exact lw_ret hx hb hr hlocks hd
end LR
