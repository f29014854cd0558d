/-! ===== a call of the class, and the same of the reference ===== -/
noncomputable def Inv (M : Mem) : Prop := Cp M M ∧ MB M
section P
variable {G : GT} {y : MethodName} {cc : ByteArray} {nL : Nat} {ret : Option FieldType} {lev : Nat} {M N K L : Mem} {as : List AV} {v v' : Int}
theorem up_q (h : AM G y cc nL ret lev M as (qI v M)) (hI : Inv M) : AM G y cc nL ret lev M as (pI fun r N => r = v ∧ Cp N M ∧ Fz M N) := h.weaken (by
  rintro r N ⟨x, rfl, h1, h2⟩
  exact ⟨x, rfl, h1, by rw [h2]; exact ⟨hI.1, fun _ _ _ => rfl⟩⟩)
theorem up_y (h : AM G y cc nL ret lev M as (pI fun r N => r = v ∧ Fy M N)) (hI : Inv M) : AM G y cc nL ret lev M as (pI fun r N => r = v ∧ Cp N M ∧ Fz M N) := h.weaken (by
  rintro r N ⟨x, rfl, h1, h2⟩
  exact ⟨x, rfl, h1, hI.1.y hI.2 h2, h2.z⟩)
theorem inv_q {N' : Mem} (hI : Inv M) (h1 : Cp N M) (hz : Fz M N) (hp : Fp N N') : Inv N' := ⟨h1.F hI.2 (fun c x a => hp c x (by omega) (by omega) (by omega) (by omega) (by omega)) (hz.tf.trans hp.tf), (hz.tf.trans hp.tf).MB hI.2⟩
theorem dn_q (h : AM G y cc nL ret lev N as (pI fun r N' => r = v' ∧ Fp N N')) (e : v' = v) (hI : Inv M) (h1 : Cp N M) (hz : Fz M N) : AM G y cc nL ret lev N as (pI fun r N' => r = v ∧ Inv N') := h.weaken (by
  rintro r N' ⟨x, rfl, h2, h3⟩
  exact ⟨x, rfl, h2.trans e, inv_q hI h1 hz h3⟩)
theorem dn_qL (h : AM G y cc nL ret lev N as (pL fun r N' => r = v' ∧ Fp N N')) (e : v' = v) (hI : Inv M) (h1 : Cp N M) (hz : Fz M N) : AM G y cc nL ret lev N as (pL fun r N' => r = v ∧ Inv N') := h.weaken (by
  rintro r N' ⟨x, rfl, h2, h3⟩
  exact ⟨x, rfl, h2.trans e, inv_q hI h1 hz h3⟩)
theorem dn_e (h : AM G y cc nL ret lev N as (qI v' L)) (hp : Fp N L) (e : v' = v) (hI : Inv M) (h1 : Cp N M) (hz : Fz M N) : AM G y cc nL ret lev N as (pI fun r N' => r = v ∧ Inv N') := h.weaken (by
  rintro r N' ⟨x, rfl, h2, h3⟩
  exact ⟨x, rfl, h2.trans e, by rw [h3]; exact inv_q hI h1 hz hp⟩)
theorem dn_s (h : AM G y cc nL ret lev N as (qI v' L)) (hs : TS M N v v' K L) (h1 : Cp N K) : AM G y cc nL ret lev N as (pI fun r N' => r = v ∧ Inv N') := h.weaken (by
  rintro r N' ⟨x, rfl, h2, h3⟩
  exact ⟨x, rfl, h2.trans hs.1, by rw [h3]; exact ⟨h1.F hs.2.2.1 hs.2.2.2 hs.2.1, hs.2.1.MB hs.2.2.1⟩⟩)
end P
theorem a_ktype (G : GT) (M : Mem) (b : Int) (h : Inv M) : AM G yX5_type cX5_type 2 (some .int) 5 M [vR 0, vI b] (pI fun r N => r = (o_type M b).1 ∧ Cp N ((o_type M b).2) ∧ Fz M N) := k_type G M M b h.1 h.2
theorem a_ctype (G : GT) (M N : Mem) (b : Int) (h : Inv M) (h1 : Cp N ((o_type M b).2)) (hz : Fz M N) : AM G yX6_type cX6_type 2 (some .int) 1 N [vR 44, vI b] (pI fun r N1 => r = (o_type M b).1 ∧ Inv N1) := by
  have hN := hz.tf.MB h.2
  exact dn_s (c_type G N b hN.1.1) (s_type hz.tf h.2 b) h1
theorem a_kwipe (G : GT) (M : Mem) (h : Inv M) : AM G yX5_wipe cX5_wipe 2 (some .int) 5 M [vR 0] (pI fun r N => r = M 44 6 ∧ Cp N (upm M 44 6 0) ∧ Fz M N) := k_wipe G M M h.1 h.2
theorem a_cwipe (G : GT) (M N : Mem) (h : Inv M) (h1 : Cp N (upm M 44 6 0)) (hz : Fz M N) : AM G yX6_wipe cX6_wipe 2 (some .int) 0 N [vR 44] (pI fun r N1 => r = M 44 6 ∧ Inv N1) := by
  have hN := hz.tf.MB h.2
  exact dn_s (c_wipe G N ) (s_wipe hz.tf h.2) h1
theorem a_kundo (G : GT) (M : Mem) (h : Inv M) : AM G yX5_undo cX5_undo 1 (some .int) 5 M [vR 0] (pI fun r N => r = (o_undo M).1 ∧ Cp N ((o_undo M).2) ∧ Fz M N) := k_undo G M M h.1 h.2
theorem a_cundo (G : GT) (M N : Mem) (h : Inv M) (h1 : Cp N ((o_undo M).2)) (hz : Fz M N) : AM G yX6_undo cX6_undo 1 (some .int) 0 N [vR 44] (pI fun r N1 => r = (o_undo M).1 ∧ Inv N1) := by
  have hN := hz.tf.MB h.2
  exact dn_s (c_undo G N hN.1.1) (s_undo hz.tf h.2) h1
theorem a_kfault (G : GT) (M : Mem) (h : Inv M) : AM G yX5_fault cX5_fault 1 (some .int) 0 M [vR 0] (pI fun r N => r = (reads M).2 ∧ Cp N (M) ∧ Fz M N) := up_q (k_fault G M M h.1) h
theorem a_cfault (G : GT) (M N : Mem) (h : Inv M) (h1 : Cp N (M)) (hz : Fz M N) : AM G yX6_fault cX6_fault 1 (some .int) 4 N [vR 44] (pI fun r N1 => r = (reads M).2 ∧ Inv N1) := by
  have hN := hz.tf.MB h.2
  exact dn_e (c_fault G N hN.1.1 hN.1.2.1) (reads_Fp hN.1) (t_fault hz.tf h.2) h h1 hz
theorem a_kperson (G : GT) (M : Mem) (k w : Int) (h : Inv M) : AM G yX5_person cX5_person 3 (some .int) 2 M [vR 0, vI k, vI w] (pI fun r N => r = o_person M k w ∧ Cp N (M) ∧ Fz M N) := up_q (k_person G M M k w h.1 h.2) h
theorem a_cperson (G : GT) (M N : Mem) (k w : Int) (h : Inv M) (h1 : Cp N (M)) (hz : Fz M N) : AM G yX6_person cX6_person 3 (some .int) 4 N [vR 44, vI k, vI w] (pI fun r N1 => r = o_person M k w ∧ Inv N1) := by
  have hN := hz.tf.MB h.2
  exact dn_e (c_person G N k w hN.1.1 hN.1.2.1) (reads_Fp hN.1) (t_person hz.tf h.2 k w) h h1 hz
theorem a_kevent (G : GT) (M : Mem) (a b c : Int) (h : Inv M) : AM G yX5_event cX5_event 4 (some .int) 5 M [vR 0, vI a, vI b, vI c] (pI fun r N => r = (o_event M a b c).1 ∧ Cp N ((o_event M a b c).2) ∧ Fz M N) := k_event G M M a b c h.1 h.2
theorem a_cevent (G : GT) (M N : Mem) (a b c : Int) (h : Inv M) (h1 : Cp N ((o_event M a b c).2)) (hz : Fz M N) : AM G yX6_event cX6_event 4 (some .int) 2 N [vR 44, vI a, vI b, vI c] (pI fun r N1 => r = (o_event M a b c).1 ∧ Inv N1) := by
  have hN := hz.tf.MB h.2
  exact dn_s (c_event G N a b c hN.1.2.2) (s_event hz.tf h.2 a b c) h1
theorem a_kback (G : GT) (M : Mem) (h : Inv M) : AM G yX5_back cX5_back 1 (some .int) 5 M [vR 0] (pI fun r N => r = (o_back M).1 ∧ Cp N ((o_back M).2) ∧ Fz M N) := k_back G M M h.1 h.2
theorem a_cback (G : GT) (M N : Mem) (h : Inv M) (h1 : Cp N ((o_back M).2)) (hz : Fz M N) : AM G yX6_back cX6_back 1 (some .int) 0 N [vR 44] (pI fun r N1 => r = (o_back M).1 ∧ Inv N1) := by
  have hN := hz.tf.MB h.2
  exact dn_s (c_back G N hN.1.2.2) (s_back hz.tf h.2) h1
theorem a_kread (G : GT) (M : Mem) (a : Int) (h : Inv M) : AM G yX5_read cX5_read 5 (some .int) 5 M [vR 0, vI a] (pI fun r N => r = (o_read M a).1 ∧ Cp N ((o_read M a).2) ∧ Fz M N) := k_read G M M a h.1 h.2
theorem a_cread (G : GT) (M N : Mem) (a : Int) (h : Inv M) (h1 : Cp N ((o_read M a).2)) (hz : Fz M N) : AM G yX6_read cX6_read 5 (some .int) 3 N [vR 44, vI a] (pI fun r N1 => r = (o_read M a).1 ∧ Inv N1) := by
  have hN := hz.tf.MB h.2
  exact dn_s (c_read G N a hN.2.2.2 hN.1.2.2) (s_read hz.tf h.2 a) h1
theorem a_kat (G : GT) (M : Mem) (q k w : Int) (h : Inv M) : AM G yX5_at cX5_at 4 (some .int) 2 M [vR 0, vI q, vI k, vI w] (pI fun r N => r = o_at M q k w ∧ Cp N (M) ∧ Fz M N) := up_q (k_at G M M q k w h.1 h.2) h
theorem a_cat (G : GT) (M N : Mem) (q k w : Int) (h : Inv M) (h1 : Cp N (M)) (hz : Fz M N) : AM G yX6_at cX6_at 4 (some .int) 6 N [vR 44, vI q, vI k, vI w] (pI fun r N1 => r = o_at M q k w ∧ Inv N1) := by
  have hN := hz.tf.MB h.2
  exact dn_e (c_at G N q k w hN.1) (find_Fp hN.1) (t_at hz.tf h.2 q k w) h h1 hz
theorem a_khouse (G : GT) (M : Mem) (q x : Int) (h : Inv M) : AM G yX5_house cX5_house 4 (some .int) 1 M [vR 0, vI q, vI x] (pI fun r N => r = o_house M q x ∧ Cp N (M) ∧ Fz M N) := up_q (k_house G M M q x h.1 h.2) h
theorem a_chouse (G : GT) (M N : Mem) (q x : Int) (h : Inv M) (h1 : Cp N (M)) (hz : Fz M N) : AM G yX6_house cX6_house 3 (some .int) 6 N [vR 44, vI q, vI x] (pI fun r N1 => r = o_house M q x ∧ Inv N1) := by
  have hN := hz.tf.MB h.2
  exact dn_e (c_house G N q x hN.1) (find_Fp hN.1) (t_house hz.tf h.2 q x) h h1 hz
theorem a_kpairs (G : GT) (M : Mem) (q w : Int) (h : Inv M) : AM G yX5_pairs cX5_pairs 6 (some .int) 2 M [vR 0, vI q, vI w] (pI fun r N => r = o_pairs M q w ∧ Cp N (M) ∧ Fz M N) := up_q (k_pairs G M M q w h.1 h.2) h
theorem a_cpairs (G : GT) (M N : Mem) (q w : Int) (h : Inv M) (h1 : Cp N (M)) (hz : Fz M N) : AM G yX6_pairs cX6_pairs 3 (some .int) 6 N [vR 44, vI q, vI w] (pI fun r N1 => r = o_pairs M q w ∧ Inv N1) := by
  have hN := hz.tf.MB h.2
  exact dn_e (c_pairs G N q w hN.1) (find_Fp hN.1) (t_pairs hz.tf h.2 q w) h h1 hz
theorem a_kbored (G : GT) (M : Mem) (k : Int) (h : Inv M) : AM G yX5_bored cX5_bored 6 (some .int) 2 M [vR 0, vI k] (pI fun r N => r = o_bored M k ∧ Cp N (M) ∧ Fz M N) := up_q (k_bored G M M k h.1 h.2) h
theorem a_cbored (G : GT) (M N : Mem) (k : Int) (h : Inv M) (h1 : Cp N (M)) (hz : Fz M N) : AM G yX6_bored cX6_bored 2 (some .int) 6 N [vR 44, vI k] (pI fun r N1 => r = o_bored M k ∧ Inv N1) := by
  have hN := hz.tf.MB h.2
  exact dn_e (c_bored G N k hN.1) (find_Fp hN.1) (t_bored hz.tf h.2 k) h h1 hz
theorem a_ksum (G : GT) (M : Mem) (w : Int) (h : Inv M) : AM G yX5_sum cX5_sum 2 (some .int) 1 M [vR 0, vI w] (pI fun r N => r = o_sum M w ∧ Cp N (M) ∧ Fz M N) := up_q (k_sum G M M w h.1) h
theorem a_csum (G : GT) (M N : Mem) (w : Int) (h : Inv M) (h1 : Cp N (M)) (hz : Fz M N) : AM G yX6_sum cX6_sum 2 (some .int) 6 N [vR 44, vI w] (pI fun r N1 => r = o_sum M w ∧ Inv N1) := by
  have hN := hz.tf.MB h.2
  exact dn_e (c_sum G N w hN.1) (find_Fp hN.1) (t_sum hz.tf h.2 w) h h1 hz
theorem a_kfirst (G : GT) (M : Mem) (w : Int) (h : Inv M) : AM G yX5_first cX5_first 2 (some .int) 1 M [vR 0, vI w] (pI fun r N => r = o_first M w ∧ Cp N (M) ∧ Fz M N) := up_q (k_first G M M w h.1) h
theorem a_cfirst (G : GT) (M N : Mem) (w : Int) (h : Inv M) (h1 : Cp N (M)) (hz : Fz M N) : AM G yX6_first cX6_first 2 (some .int) 6 N [vR 44, vI w] (pI fun r N1 => r = o_first M w ∧ Inv N1) := by
  have hN := hz.tf.MB h.2
  exact dn_e (c_first G N w hN.1) (find_Fp hN.1) (t_first hz.tf h.2 w) h h1 hz
theorem a_krooted (G : GT) (M : Mem) (h : Inv M) : AM G yX5_rooted cX5_rooted 1 (some .int) 0 M [vR 0] (pI fun r N => r = rootedNow (find M) ∧ Cp N (M) ∧ Fz M N) := up_q (k_rooted G M M h.1 h.2) h
theorem a_crooted (G : GT) (M N : Mem) (h : Inv M) (h1 : Cp N (M)) (hz : Fz M N) : AM G yX6_rooted cX6_rooted 1 (some .int) 6 N [vR 44] (pI fun r N1 => r = rootedNow (find M) ∧ Inv N1) := by
  have hN := hz.tf.MB h.2
  exact dn_e (c_rooted G N hN.1) (find_Fp hN.1) (t_rooted hz.tf h.2) h h1 hz
theorem a_kfriends (G : GT) (M : Mem) (k : Int) (h : Inv M) : AM G yX5_friends cX5_friends 4 (some .int) 2 M [vR 0, vI k] (pI fun r N => r = o_friends M k ∧ Cp N (M) ∧ Fz M N) := up_q (k_friends G M M k h.1 h.2) h
theorem a_cfriends (G : GT) (M N : Mem) (k : Int) (h : Inv M) (h1 : Cp N (M)) (hz : Fz M N) : AM G yX6_friends cX6_friends 2 (some .int) 6 N [vR 44, vI k] (pI fun r N1 => r = o_friends M k ∧ Inv N1) := by
  have hN := hz.tf.MB h.2
  exact dn_e (c_friends G N k hN.1) (find_Fp hN.1) (t_friends hz.tf h.2 k) h h1 hz
theorem a_ksettle (G : GT) (M : Mem) (k w : Int) (h : Inv M) : AM G yX5_settle cX5_settle 4 (some .int) 4 M [vR 0, vI k, vI w] (pI fun r N => r = o_settle M k w ∧ Cp N (M) ∧ Fz M N) := up_y (k_settle G M M k w h.1 h.2) h
theorem a_csettle (G : GT) (M N : Mem) (k w : Int) (h : Inv M) (h1 : Cp N (M)) (hz : Fz M N) : AM G yX6_settle cX6_settle 3 (some .int) 6 N [vR 44, vI k, vI w] (pI fun r N1 => r = o_settle M k w ∧ Inv N1) := by
  have hN := hz.tf.MB h.2
  exact dn_q (c_settle G N k w hN) (t_settle hz.tf h.2 k w) h h1 hz
theorem a_kthink (G : GT) (M : Mem) (k w : Int) (h : Inv M) : AM G yX5_think cX5_think 4 (some .int) 4 M [vR 0, vI k, vI w] (pI fun r N => r = o_think M k w ∧ Cp N (M) ∧ Fz M N) := up_y (k_think G M M k w h.1 h.2) h
theorem a_cthink (G : GT) (M N : Mem) (k w : Int) (h : Inv M) (h1 : Cp N (M)) (hz : Fz M N) : AM G yX6_think cX6_think 3 (some .int) 6 N [vR 44, vI k, vI w] (pI fun r N1 => r = o_think M k w ∧ Inv N1) := by
  have hN := hz.tf.MB h.2
  exact dn_q (c_think G N k w hN) (t_think hz.tf h.2 k w) h h1 hz
theorem a_krest (G : GT) (M : Mem) (w : Int) (h : Inv M) : AM G yX5_rest cX5_rest 3 (some .int) 4 M [vR 0, vI w] (pI fun r N => r = o_rest M w ∧ Cp N (M) ∧ Fz M N) := up_y (k_rest G M M w h.1 h.2) h
theorem a_crest (G : GT) (M N : Mem) (w : Int) (h : Inv M) (h1 : Cp N (M)) (hz : Fz M N) : AM G yX6_rest cX6_rest 2 (some .int) 6 N [vR 44, vI w] (pI fun r N1 => r = o_rest M w ∧ Inv N1) := by
  have hN := hz.tf.MB h.2
  exact dn_q (c_rest G N w hN) (t_rest hz.tf h.2 w) h h1 hz
theorem a_kspare (G : GT) (M : Mem) (i : Int) (h : Inv M) : AM G yX5_spare cX5_spare 6 (some .int) 5 M [vR 0, vI i] (pI fun r N => r = o_spare M i ∧ Cp N (M) ∧ Fz M N) := up_y (k_spare G M M i h.1 h.2) h
theorem a_cspare (G : GT) (M N : Mem) (i : Int) (h : Inv M) (h1 : Cp N (M)) (hz : Fz M N) : AM G yX6_spare cX6_spare 2 (some .int) 7 N [vR 44, vI i] (pI fun r N1 => r = o_spare M i ∧ Inv N1) := by
  have hN := hz.tf.MB h.2
  exact dn_q (c_spare G N i hN) (t_spare hz.tf h.2 i) h h1 hz
theorem a_kseen (G : GT) (M : Mem) (a b c : Int) (h : Inv M) : AM G yX5_seen cX5_seen 4 (some .int) 1 M [vR 0, vI a, vI b, vI c] (pI fun r N => r = (o_seen M a b c).1 ∧ Cp N ((o_seen M a b c).2) ∧ Fz M N) := k_seen G M M a b c h.1 h.2
theorem a_cseen (G : GT) (M N : Mem) (a b c : Int) (h : Inv M) (h1 : Cp N ((o_seen M a b c).2)) (hz : Fz M N) : AM G yX6_seen cX6_seen 4 (some .int) 2 N [vR 44, vI a, vI b, vI c] (pI fun r N1 => r = (o_seen M a b c).1 ∧ Inv N1) := by
  have hN := hz.tf.MB h.2
  exact dn_s (c_seen G N a b c hN.2.2.1.1) (s_seen hz.tf h.2 a b c) h1
theorem a_kforget (G : GT) (M : Mem) (h : Inv M) : AM G yX5_forget cX5_forget 2 (some .int) 0 M [vR 0] (pI fun r N => r = M 44 28 ∧ Cp N (upm M 44 28 0) ∧ Fz M N) := k_forget G M M h.1 h.2
theorem a_cforget (G : GT) (M N : Mem) (h : Inv M) (h1 : Cp N (upm M 44 28 0)) (hz : Fz M N) : AM G yX6_forget cX6_forget 2 (some .int) 0 N [vR 44] (pI fun r N1 => r = M 44 28 ∧ Inv N1) := by
  have hN := hz.tf.MB h.2
  exact dn_s (c_forget G N ) (s_forget hz.tf h.2) h1
theorem a_knever (G : GT) (M : Mem) (h : Inv M) : AM G yX5_never cX5_never 3 (some .int) 4 M [vR 0] (pI fun r N => r = neverS (find M) ∧ Cp N (M) ∧ Fz M N) := up_y (k_never G M M h.1 h.2) h
theorem a_cnever (G : GT) (M N : Mem) (h : Inv M) (h1 : Cp N (M)) (hz : Fz M N) : AM G yX6_never cX6_never 1 (some .int) 7 N [vR 44] (pI fun r N1 => r = neverS (find M) ∧ Inv N1) := by
  have hN := hz.tf.MB h.2
  exact dn_q (c_never G N hN) (t_never hz.tf h.2) h h1 hz
theorem a_kwas (G : GT) (M : Mem) (k w : Int) (h : Inv M) : AM G yX5_was cX5_was 5 (some .int) 4 M [vR 0, vI k, vI w] (pI fun r N => r = o_was M k w ∧ Cp N (M) ∧ Fz M N) := up_y (k_was G M M k w h.1 h.2) h
theorem a_cwas (G : GT) (M N : Mem) (k w : Int) (h : Inv M) (h1 : Cp N (M)) (hz : Fz M N) : AM G yX6_was cX6_was 3 (some .int) 8 N [vR 44, vI k, vI w] (pI fun r N1 => r = o_was M k w ∧ Inv N1) := by
  have hN := hz.tf.MB h.2
  exact dn_q (c_was G N k w hN) (t_was hz.tf h.2 k w) h h1 hz
theorem a_kask (G : GT) (M : Mem) (k : Int) (h : Inv M) : AM G yX5_ask cX5_ask 3 (some .int) 4 M [vR 0, vI k] (pI fun r N => r = o_ask M k ∧ Cp N (M) ∧ Fz M N) := up_y (k_ask G M M k h.1 h.2) h
theorem a_cask (G : GT) (M N : Mem) (k : Int) (h : Inv M) (h1 : Cp N (M)) (hz : Fz M N) : AM G yX6_ask cX6_ask 2 (some .int) 8 N [vR 44, vI k] (pI fun r N1 => r = o_ask M k ∧ Inv N1) := by
  have hN := hz.tf.MB h.2
  exact dn_q (c_ask G N k hN) (t_ask hz.tf h.2 k) h h1 hz
theorem a_kchance (G : GT) (M : Mem) (c k w : Int) (h : Inv M) : AM G yX5_chance cX5_chance 9 (some .long) 4 M [vR 0, vI c, vI k, vI w] (pL fun r N => r = o_chance M c k w ∧ Cp N (M) ∧ Fz M N) := k_chance G M M c k w h.1 h.2
theorem a_cchance (G : GT) (M N : Mem) (c k w : Int) (h : Inv M) (h1 : Cp N (M)) (hz : Fz M N) : AM G yX6_chance cX6_chance 4 (some .long) 6 N [vR 44, vI c, vI k, vI w] (pL fun r N1 => r = o_chance M c k w ∧ Inv N1) := by
  have hN := hz.tf.MB h.2
  exact dn_qL (c_chance G N c k w hN) (t_chance hz.tf h.2 c k w) h h1 hz
theorem a_kdecades (G : GT) (M : Mem) (s n w : Int) (h : Inv M) : AM G yX5_decades cX5_decades 8 (some .int) 4 M [vR 0, vI s, vI n, vI w] (pI fun r N => r = o_decades M s n w ∧ Cp N (M) ∧ Fz M N) := up_y (k_decades G M M s n w h.1 h.2) h
theorem a_cdecades (G : GT) (M N : Mem) (s n w : Int) (h : Inv M) (h1 : Cp N (M)) (hz : Fz M N) : AM G yX6_decades cX6_decades 4 (some .int) 6 N [vR 44, vI s, vI n, vI w] (pI fun r N1 => r = o_decades M s n w ∧ Inv N1) := by
  have hN := hz.tf.MB h.2
  exact dn_q (c_decades G N s n w hN) (t_decades hz.tf h.2 s n w) h h1 hz
theorem a_ksheet (G : GT) (M : Mem) (s f n : Int) (h : Inv M) : AM G yX5_sheet cX5_sheet 5 (some .int) 1 M [vR 0, vI s, vI f, vI n] (pI fun r N => r = (o_sheet M s f n).1 ∧ Cp N ((o_sheet M s f n).2) ∧ Fz M N) := k_sheet G M M s f n h.1 h.2
theorem a_csheet (G : GT) (M N : Mem) (s f n : Int) (h : Inv M) (h1 : Cp N ((o_sheet M s f n).2)) (hz : Fz M N) : AM G yX6_sheet cX6_sheet 5 (some .int) 2 N [vR 44, vI s, vI f, vI n] (pI fun r N1 => r = (o_sheet M s f n).1 ∧ Inv N1) := by
  have hN := hz.tf.MB h.2
  exact dn_s (c_sheet G N s f n ) (s_sheet hz.tf h.2 s f n) h1
theorem a_klose (G : GT) (M : Mem) (s : Int) (h : Inv M) : AM G yX5_lose cX5_lose 3 (some .int) 1 M [vR 0, vI s] (pI fun r N => r = (o_lose M s).1 ∧ Cp N ((o_lose M s).2) ∧ Fz M N) := k_lose G M M s h.1 h.2
theorem a_close (G : GT) (M N : Mem) (s : Int) (h : Inv M) (h1 : Cp N ((o_lose M s).2)) (hz : Fz M N) : AM G yX6_lose cX6_lose 2 (some .int) 2 N [vR 44, vI s] (pI fun r N1 => r = (o_lose M s).1 ∧ Inv N1) := by
  have hN := hz.tf.MB h.2
  exact dn_s (c_lose G N s ) (s_lose hz.tf h.2 s) h1
theorem a_klay (G : GT) (M : Mem) (s f i v : Int) (h : Inv M) : AM G yX5_lay cX5_lay 7 (some .int) 2 M [vR 0, vI s, vI f, vI i, vI v] (pI fun r N => r = (o_lay M s f i v).1 ∧ Cp N ((o_lay M s f i v).2) ∧ Fz M N) := k_lay G M M s f i v h.1 h.2
theorem a_clay (G : GT) (M N : Mem) (s f i v : Int) (h : Inv M) (h1 : Cp N ((o_lay M s f i v).2)) (hz : Fz M N) : AM G yX6_lay cX6_lay 6 (some .int) 2 N [vR 44, vI s, vI f, vI i, vI v] (pI fun r N1 => r = (o_lay M s f i v).1 ∧ Inv N1) := by
  have hN := hz.tf.MB h.2
  exact dn_s (c_lay G N s f i v hN.2.2.2) (s_lay hz.tf h.2 s f i v) h1
theorem a_kget (G : GT) (M : Mem) (s f i : Int) (h : Inv M) : AM G yX5_get cX5_get 6 (some .int) 2 M [vR 0, vI s, vI f, vI i] (pI fun r N => r = (o_get M s f i).1 ∧ Cp N ((o_get M s f i).2) ∧ Fz M N) := k_get G M M s f i h.1 h.2
theorem a_cget (G : GT) (M N : Mem) (s f i : Int) (h : Inv M) (h1 : Cp N ((o_get M s f i).2)) (hz : Fz M N) : AM G yX6_get cX6_get 4 (some .int) 2 N [vR 44, vI s, vI f, vI i] (pI fun r N1 => r = (o_get M s f i).1 ∧ Inv N1) := by
  have hN := hz.tf.MB h.2
  exact dn_s (c_get G N s f i hN.2.2.2) (s_get hz.tf h.2 s f i) h1
theorem a_kcopy (G : GT) (M : Mem) (s i t j n : Int) (h : Inv M) : AM G yX5_copy cX5_copy 8 (some .int) 1 M [vR 0, vI s, vI i, vI t, vI j, vI n] (pI fun r N => r = (o_copy M s i t j n).1 ∧ Cp N ((o_copy M s i t j n).2) ∧ Fz M N) := k_copy G M M s i t j n h.1 h.2
theorem a_ccopy (G : GT) (M N : Mem) (s i t j n : Int) (h : Inv M) (h1 : Cp N ((o_copy M s i t j n).2)) (hz : Fz M N) : AM G yX6_copy cX6_copy 7 (some .int) 2 N [vR 44, vI s, vI i, vI t, vI j, vI n] (pI fun r N1 => r = (o_copy M s i t j n).1 ∧ Inv N1) := by
  have hN := hz.tf.MB h.2
  exact dn_s (c_copy G N s i t j n hN.2.2.2) (s_copy hz.tf h.2 s i t j n) h1
theorem a_kwrite (G : GT) (M : Mem) (k s : Int) (h : Inv M) : AM G yX5_write cX5_write 6 (some .int) 2 M [vR 0, vI k, vI s] (pI fun r N => r = (o_write M k s).1 ∧ Cp N ((o_write M k s).2) ∧ Fz M N) := k_write G M M k s h.1 h.2
theorem a_cwrite (G : GT) (M N : Mem) (k s : Int) (h : Inv M) (h1 : Cp N ((o_write M k s).2)) (hz : Fz M N) : AM G yX6_write cX6_write 5 (some .int) 6 N [vR 44, vI k, vI s] (pI fun r N1 => r = (o_write M k s).1 ∧ Inv N1) := by
  have hN := hz.tf.MB h.2
  exact dn_s (c_write G N k s hN) (s_write hz.tf h.2 k s) h1
theorem a_kcount (G : GT) (M : Mem) (w : Int) (h : Inv M) : AM G yX5_count cX5_count 2 (some .int) 2 M [vR 0, vI w] (pI fun r N => r = o_count M w ∧ Cp N (M) ∧ Fz M N) := up_q (k_count G M M w h.1 h.2) h
theorem a_ccount (G : GT) (M N : Mem) (w : Int) (h : Inv M) (h1 : Cp N (M)) (hz : Fz M N) : AM G yX6_count cX6_count 2 (some .int) 6 N [vR 44, vI w] (pI fun r N1 => r = o_count M w ∧ Inv N1) := by
  have hN := hz.tf.MB h.2
  exact dn_q (c_count G N w hN) (t_count hz.tf h.2 w) h h1 hz
theorem a_kdigest (G : GT) (M : Mem) (h : Inv M) : AM G yX5_digest cX5_digest 4 (some .long) 6 M [vR 0] (pL fun r N => r = digS M ∧ Cp N (M) ∧ Fz M N) := k_digest G M M h.1 h.2
theorem a_cdigest (G : GT) (M N : Mem) (h : Inv M) (h1 : Cp N (M)) (hz : Fz M N) : AM G yX6_digest cX6_digest 4 (some .long) 9 N [vR 44] (pL fun r N1 => r = digS M ∧ Inv N1) := by
  have hN := hz.tf.MB h.2
  exact dn_qL (c_digest G N hN) (t_digest hz.tf h.2) h h1 hz
