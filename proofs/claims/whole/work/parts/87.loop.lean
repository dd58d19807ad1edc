theorem wt_1 : Cond.initialized RX7 ∈ lw_tbl := (List.mem_append_right _ (List.mem_of_getElem? (i := 1) (by decide +kernel)) : _ ∈ k2_sels lw_privs ++ tables_1)
theorem wt_10 : Cond.initialized RX8 ∈ lw_tbl := (List.mem_append_right _ (List.mem_of_getElem? (i := 10) (by decide +kernel)) : _ ∈ k2_sels lw_privs ++ tables_1)
theorem wt_13 : Cond.classLink RL 7 RX7 ∈ lw_tbl := (List.mem_append_right _ (List.mem_of_getElem? (i := 13) (by decide +kernel)) : _ ∈ k2_sels lw_privs ++ tables_1)
theorem wt_559 : Cond.classLink RL 10 RX8 ∈ lw_tbl := (List.mem_append_right _ (List.mem_of_getElem? (i := 559) (by decide +kernel)) : _ ∈ k2_sels lw_privs ++ tables_1)
theorem wt_15 : Cond.methodLink RL 9 yX7_init ∈ lw_tbl := (List.mem_append_right _ (List.mem_of_getElem? (i := 15) (by decide +kernel)) : _ ∈ k2_sels lw_privs ++ tables_1)
theorem wt_561 : Cond.methodLink RL 12 yX8_init ∈ lw_tbl := (List.mem_append_right _ (List.mem_of_getElem? (i := 561) (by decide +kernel)) : _ ∈ k2_sels lw_privs ++ tables_1)
theorem wt_158 : Cond.instantiable RX0 2 ∈ lw_tbl := (List.mem_append_right _ (List.mem_of_getElem? (i := 158) (by decide +kernel)) : _ ∈ k2_sels lw_privs ++ tables_1)
theorem wt_187 : Cond.instantiable RX1 3 ∈ lw_tbl := (List.mem_append_right _ (List.mem_of_getElem? (i := 187) (by decide +kernel)) : _ ∈ k2_sels lw_privs ++ tables_1)
theorem wt_205 : Cond.instantiable RX2 2 ∈ lw_tbl := (List.mem_append_right _ (List.mem_of_getElem? (i := 205) (by decide +kernel)) : _ ∈ k2_sels lw_privs ++ tables_1)
theorem wt_104 : Cond.instantiable RX3 6 ∈ lw_tbl := (List.mem_append_right _ (List.mem_of_getElem? (i := 104) (by decide +kernel)) : _ ∈ k2_sels lw_privs ++ tables_1)
theorem wt_152 : Cond.instantiable RX4 3 ∈ lw_tbl := (List.mem_append_right _ (List.mem_of_getElem? (i := 152) (by decide +kernel)) : _ ∈ k2_sels lw_privs ++ tables_1)
theorem wt_22 : Cond.instantiable RX5 8 ∈ lw_tbl := (List.mem_append_right _ (List.mem_of_getElem? (i := 22) (by decide +kernel)) : _ ∈ k2_sels lw_privs ++ tables_1)
theorem wt_55 : Cond.instantiable RX6 6 ∈ lw_tbl := (List.mem_append_right _ (List.mem_of_getElem? (i := 55) (by decide +kernel)) : _ ∈ k2_sels lw_privs ++ tables_1)
theorem wt_14 : Cond.instantiable RX7 9 ∈ lw_tbl := (List.mem_append_right _ (List.mem_of_getElem? (i := 14) (by decide +kernel)) : _ ∈ k2_sels lw_privs ++ tables_1)
theorem wt_560 : Cond.instantiable RX8 19 ∈ lw_tbl := (List.mem_append_right _ (List.mem_of_getElem? (i := 560) (by decide +kernel)) : _ ∈ k2_sels lw_privs ++ tables_1)
theorem wt_23 : Cond.methodLinkNest RX7 9 yX5_init RX7 ∈ lw_tbl := (List.mem_append_right _ (List.mem_of_getElem? (i := 23) (by decide +kernel)) : _ ∈ k2_sels lw_privs ++ tables_1)
theorem wt_153 : Cond.methodLinkNest RX7 32 yX4_init RX7 ∈ lw_tbl := (List.mem_append_right _ (List.mem_of_getElem? (i := 153) (by decide +kernel)) : _ ∈ k2_sels lw_privs ++ tables_1)
theorem wt_188 : Cond.methodLinkNest RX7 52 yX1_init RX7 ∈ lw_tbl := (List.mem_append_right _ (List.mem_of_getElem? (i := 188) (by decide +kernel)) : _ ∈ k2_sels lw_privs ++ tables_1)
theorem wt_206 : Cond.methodLinkNest RX7 59 yX2_init RX7 ∈ lw_tbl := (List.mem_append_right _ (List.mem_of_getElem? (i := 206) (by decide +kernel)) : _ ∈ k2_sels lw_privs ++ tables_1)
theorem wt_102 : Cond.arrayClass .int ∈ lw_tbl := (List.mem_append_right _ (List.mem_of_getElem? (i := 102) (by decide +kernel)) : _ ∈ k2_sels lw_privs ++ tables_1)
theorem wt_53 : Cond.arrayClass .char ∈ lw_tbl := (List.mem_append_right _ (List.mem_of_getElem? (i := 53) (by decide +kernel)) : _ ∈ k2_sels lw_privs ++ tables_1)
theorem wt_203 : Cond.arrayClass .boolean ∈ lw_tbl := (List.mem_append_right _ (List.mem_of_getElem? (i := 203) (by decide +kernel)) : _ ∈ k2_sels lw_privs ++ tables_1)
theorem wt_452 : Cond.laysStatic "WarmBottles" "ONE_BED" "[I" ∈ lw_tbl := (List.mem_append_right _ (List.mem_of_getElem? (i := 452) (by decide +kernel)) : _ ∈ k2_sels lw_privs ++ tables_1)
theorem wt_16 : Cond.instanceMethod yX7_init ∈ lw_tbl := (List.mem_append_right _ (List.mem_of_getElem? (i := 16) (by decide +kernel)) : _ ∈ k2_sels lw_privs ++ tables_1)
theorem wt_562 : Cond.instanceMethod yX8_init ∈ lw_tbl := (List.mem_append_right _ (List.mem_of_getElem? (i := 562) (by decide +kernel)) : _ ∈ k2_sels lw_privs ++ tables_1)
theorem lw_in0 {i L : Nat} (hL : L ≤ 320) (h : i < L) : vp_in (iI (i : Int)) L := by
  intro q
  rw [iL0, iI_lt (by omega) (by omega) (by omega) (by omega), iI_tn (by omega) (by omega)] at q
  omega
theorem va_Tbed {args : Array Value} {s : State} (h : (Jvm.Cond.and given_1 narrow_1).before args s = true) (hl : (Cond.laysStatic "WarmBottles" "ONE_BED" "[I").before args s = true) (hini : (Cond.initialized "WarmBottles").before args s = true) : ∃ tb : Nat, va_T .int tb 6 (fun _ => .int 0) (fun q : Nat => s.heap.size ≤ q) s s.heap ∧ va_Z "WarmBottles" "ONE_BED" "[I" (.ref tb) (fun q : Nat => s.heap.size ≤ q) s s.heap := by
  have hs := flat_of_before _ h
  have hA : ∀ a : Nat, a < s.heap.size → ¬ (fun q : Nat => s.heap.size ≤ q) a := fun a h => Nat.not_le.mpr h
  have h1 : (Cond.arrayOf (.static "WarmBottles" "ONE_BED" "[I") .int).before args s = true := hs _ (by decide +kernel)
  have h2 : (Cond.eq (.length (.static "WarmBottles" "ONE_BED" "[I")) (.int 6)).before args s = true := hs _ (by decide +kernel)
  have e0 : (Cond.eq (.elem (.static "WarmBottles" "ONE_BED" "[I") (.int 0)) (.int 0)).before args s = true := hs _ (by decide +kernel)
  have e1 : (Cond.eq (.elem (.static "WarmBottles" "ONE_BED" "[I") (.int 1)) (.int 0)).before args s = true := hs _ (by decide +kernel)
  have e2 : (Cond.eq (.elem (.static "WarmBottles" "ONE_BED" "[I") (.int 2)) (.int 0)).before args s = true := hs _ (by decide +kernel)
  have e3 : (Cond.eq (.elem (.static "WarmBottles" "ONE_BED" "[I") (.int 3)) (.int 0)).before args s = true := hs _ (by decide +kernel)
  have e4 : (Cond.eq (.elem (.static "WarmBottles" "ONE_BED" "[I") (.int 4)) (.int 0)).before args s = true := hs _ (by decide +kernel)
  have e5 : (Cond.eq (.elem (.static "WarmBottles" "ONE_BED" "[I") (.int 5)) (.int 0)).before args s = true := hs _ (by decide +kernel)
  obtain ⟨tb, ht, hT⟩ := va_Tof (N := 6) (f := fun _ => .int 0) (by decide) h1 (va_eqt h2) (fun j hj => by
    rcases (show j = 0 ∨ j = 1 ∨ j = 2 ∨ j = 3 ∨ j = 4 ∨ j = 5 by omega) with rfl | rfl | rfl | rfl | rfl | rfl
    · exact va_eqt e0
    · exact va_eqt e1
    · exact va_eqt e2
    · exact va_eqt e3
    · exact va_eqt e4
    · exact va_eqt e5) hA
  exact ⟨tb, hT, va_Zref hl hini ht hA⟩

set_option maxHeartbeats 8000000 in
set_option maxRecDepth 100000 in
/-- the law's loop -/
theorem law_loop {p : Program} {l : Launch} {e : Env} {s : State} {m : MethodId} {below : List Frame} {meth : Method} {c : Code} {dC : Nat → ClassId} {dI : Nat → Nat → Nat} {b L : Nat} {xs : Nat → Int32} {Rel : (Nat → Int32) → (Nat → Nat → Int32) → Int64 → (Nat → Int32) → (Nat → Nat → Int32) → Int64 → Prop} {tb : Nat} (N : Nat) (hst : St_all N Rel) (a b2 : Nat → Nat) (cy : Nat → ClassId) (hL : L ≤ 320) (hx : p.tables.exec = Jvm.exec) (hb : c.code = cL_law) (hr : meth.sig.returnType = ret) (hml : c.maxLocals = 4) (hown : s.vm.findClass RL = some m.cls) (hts : ∀ w ∈ wsL_law, w.before #[Value.ref b] s = true) (hX : va_X b L xs s s.heap) (hbl : b < s.heap.size) (hlocks : meth.locks = false) (hT : va_T .int tb 6 (fun _ => .int 0) (fun q : Nat => s.heap.size ≤ q) s s.heap) (hZ : va_Z "WarmBottles" "ONE_BED" "[I" (.ref tb) (fun q : Nat => s.heap.size ≤ q) s s.heap) (hK : va_K (dC, dI) vwCl (g_tys cy) s) :
    ∀ (n i : Nat), i ≤ L + 5 → L + 6 ≤ i + n → ∀ (IC : Nat → Int32) (AC : Nat → Nat → Int32) (TC : Int64) (IM : Nat → Int32) (AM : Nat → Nat → Int32) (TM : Int64), Rel IC AC TC IM AM TM → ∀ (H : Heap) (locs : List Loc), va_P (dC, dI) vwCl (wC a cy IC AC TC ++ wM b2 cy IM AM TM) H → va_D (fun q : Nat => s.heap.size ≤ q) (wC a cy IC AC TC ++ wM b2 cy IM AM TM) → va_S (fun q : Nat => s.heap.size ≤ q) s.heap H locs → ∀ ls : Array Slot, lv_has ls 4 [(0, .ref b), (1, .ref (a 0)), (2, .ref (b2 0)), (3, .int (iI (i : Int)))] → W p l e room_1 s m #[Value.ref b] below meth c H locs 600000 7302250 (lw_Z below #[Value.ref b] s) (F0 m 18 ls []) := by
  have hA : ∀ q : Nat, s.heap.size ≤ q → (fun q : Nat => s.heap.size ≤ q) q := fun _ h => h
  have hbA : ¬ (fun q : Nat => s.heap.size ≤ q) b := Nat.not_le.mpr hbl
  intro n
  induction n with
  | zero =>
    intro i h1 h2
    exact absurd h2 (by omega)
  | succ n ih =>
    intro i hi hin IC AC TC IM AM TM hrel H locs hP hD hS ls hl
    refine lv_iload_n hx hb dL_law_18 rfl (lv_at hl 3 rfl) ?_
    refine lv_aload_n hx hb dL_law_19 rfl (lv_at hl 0 rfl) ?_
    refine va_slen hx hb hX hbl hbA hS dL_law_20 ?_
    refine lv_iconst (v := 5) hx hb dL_law_21 (by decide) ?_
    refine lv_isub hx hb dL_law_22 ?_
    refine lv_icmp_gt (tgt := 730) hx hb dL_law_23 (by decide) (fun _ => ?_) (fun cgt => ?_)
    · refine lv_iconst (v := 1) hx hb dL_law_730 (by decide) ?_
      refine va_forget (fun q hq => hS.2.2 q hq) ?_
      exact lw_ret hx hb hr hlocks dL_law_731
    · have hlt : i + 5 ≤ L := lw_gt (by omega) hL cgt
      have kk : ∀ (IC : Nat → Int32) (AC : Nat → Nat → Int32) (TC : Int64) (IM : Nat → Int32) (AM : Nat → Nat → Int32) (TM : Int64), Rel IC AC TC IM AM TM → ∀ (H : Heap) (locs : List Loc), va_P (dC, dI) vwCl (wC a cy IC AC TC ++ wM b2 cy IM AM TM) H → va_D (fun q : Nat => s.heap.size ≤ q) (wC a cy IC AC TC ++ wM b2 cy IM AM TM) → va_S (fun q : Nat => s.heap.size ≤ q) s.heap H locs → ∀ ls : Array Slot, lv_has ls 4 [(0, .ref b), (1, .ref (a 0)), (2, .ref (b2 0)), (3, .int (iI (i : Int)))] → W p l e room_1 s m #[Value.ref b] below meth c H locs 600000 7302250 (lw_Z below #[Value.ref b] s) (F0 m 724 ls []) := by
        intro IC AC TC IM AM TM hrel H locs hP hD hS ls hl
        refine lv_iinc (v := iI ((i + 5 : Nat) : Int)) (lv' := [(3, .int (iI ((i + 5 : Nat) : Int))), (0, .ref b), (1, .ref (a 0)), (2, .ref (b2 0))]) hx hb dL_law_724 hl (k := 3) rfl (by rw [show ((i + 5 : Nat) : Int) = (i : Int) + 5 by omega]; exact iI_add _ _) (by decide) rfl (fun ls hl => ?_)
        refine lv_goto (tgt := 18) hx hb dL_law_727 (by decide) ?_
        exact ih (i + 5) (by omega) (by omega) IC AC TC IM AM TM hrel H locs hP hD hS ls (lv_sub hl [1, 2, 3, 0] rfl)
      refine lv_aload_n hx hb dL_law_26 rfl (lv_at hl 0 rfl) ?_
      refine lv_iload_n hx hb dL_law_27 rfl (lv_at hl 3 rfl) ?_
      refine va_sld hx hb hX hbl hbA hS (lw_in0 hL (by omega)) dL_law_28 ?_
      refine lv_bipush (v := 31) hx hb dL_law_29 (by decide) ?_
      refine lv_iand hx hb dL_law_31 ?_
      rcases Decidable.em ((xs (iI (i : Int)).toNatClampNeg &&& 31) = 0) with c0 | c0
      · refine lv_tableIn (off := 116) (tgt := 148) hx hb dL_law_32 (by rw [c0]; decide) (by rw [c0]; decide) (by rw [c0]; rfl) (by decide) ?_
        exact lw_type N hst.1 a b2 cy i hL hlt hx hb hml hown hts hX hbl hK kk IC AC TC IM AM TM hrel H locs hP hD hS ls hl
      rcases Decidable.em ((xs (iI (i : Int)).toNatClampNeg &&& 31) = 1) with c1 | c1
      · refine lv_tableIn (off := 139) (tgt := 171) hx hb dL_law_32 (by rw [c1]; decide) (by rw [c1]; decide) (by rw [c1]; rfl) (by decide) ?_
        exact lw_clear N hst.2.1 a b2 cy i hL hlt hx hb hml hown hts hX hbl hK kk IC AC TC IM AM TM hrel H locs hP hD hS ls hl
      rcases Decidable.em ((xs (iI (i : Int)).toNatClampNeg &&& 31) = 2) with c2 | c2
      · refine lv_tableIn (off := 152) (tgt := 184) hx hb dL_law_32 (by rw [c2]; decide) (by rw [c2]; decide) (by rw [c2]; rfl) (by decide) ?_
        exact lw_ward N hst.2.2.1 a b2 cy i hL hlt hx hb hml hown hts hX hbl hK kk IC AC TC IM AM TM hrel H locs hP hD hS ls hl
      rcases Decidable.em ((xs (iI (i : Int)).toNatClampNeg &&& 31) = 3) with c3 | c3
      · refine lv_tableIn (off := 165) (tgt := 197) hx hb dL_law_32 (by rw [c3]; decide) (by rw [c3]; decide) (by rw [c3]; rfl) (by decide) ?_
        exact lw_bottle N hst.2.2.2.1 a b2 cy i hL hlt hx hb hml hown hts hX hbl hK kk IC AC TC IM AM TM hrel H locs hP hD hS ls hl
      rcases Decidable.em ((xs (iI (i : Int)).toNatClampNeg &&& 31) = 4) with c4 | c4
      · refine lv_tableIn (off := 198) (tgt := 230) hx hb dL_law_32 (by rw [c4]; decide) (by rw [c4]; decide) (by rw [c4]; rfl) (by decide) ?_
        exact lw_now N hst.2.2.2.2.1 a b2 cy i hL hlt hx hb hml hown hts hX hbl hK kk IC AC TC IM AM TM hrel H locs hP hD hS ls hl
      rcases Decidable.em ((xs (iI (i : Int)).toNatClampNeg &&& 31) = 5) with c5 | c5
      · refine lv_tableIn (off := 221) (tgt := 253) hx hb dL_law_32 (by rw [c5]; decide) (by rw [c5]; decide) (by rw [c5]; rfl) (by decide) ?_
        exact lw_hour N hst.2.2.2.2.2.1 a b2 cy i hL hlt hx hb hml hown hts hX hbl hK kk IC AC TC IM AM TM hrel H locs hP hD hS ls hl
      rcases Decidable.em ((xs (iI (i : Int)).toNatClampNeg &&& 31) = 6) with c6 | c6
      · refine lv_tableIn (off := 234) (tgt := 266) hx hb dL_law_32 (by rw [c6]; decide) (by rw [c6]; decide) (by rw [c6]; rfl) (by decide) ?_
        exact lw_fills N hst.2.2.2.2.2.2.1 a b2 cy i hL hlt hx hb hml hown hts hX hbl hK kk IC AC TC IM AM TM hrel H locs hP hD hS ls hl
      rcases Decidable.em ((xs (iI (i : Int)).toNatClampNeg &&& 31) = 7) with c7 | c7
      · refine lv_tableIn (off := 267) (tgt := 299) hx hb dL_law_32 (by rw [c7]; decide) (by rw [c7]; decide) (by rw [c7]; rfl) (by decide) ?_
        exact lw_lays N hst.2.2.2.2.2.2.2.1 a b2 cy i hL hlt hx hb hml hown hts hX hbl hK kk IC AC TC IM AM TM hrel H locs hP hD hS ls hl
      rcases Decidable.em ((xs (iI (i : Int)).toNatClampNeg &&& 31) = 8) with c8 | c8
      · refine lv_tableIn (off := 300) (tgt := 332) hx hb dL_law_32 (by rw [c8]; decide) (by rw [c8]; decide) (by rw [c8]; rfl) (by decide) ?_
        exact lw_spills N hst.2.2.2.2.2.2.2.2.1 a b2 cy i hL hlt hx hb hml hown hts hX hbl hK kk IC AC TC IM AM TM hrel H locs hP hD hS ls hl
      rcases Decidable.em ((xs (iI (i : Int)).toNatClampNeg &&& 31) = 9) with c9 | c9
      · refine lv_tableIn (off := 323) (tgt := 355) hx hb dL_law_32 (by rw [c9]; decide) (by rw [c9]; decide) (by rw [c9]; rfl) (by decide) ?_
        exact lw_frosts N hst.2.2.2.2.2.2.2.2.2.1 a b2 cy i hL hlt hx hb hml hown hts hX hbl hK kk IC AC TC IM AM TM hrel H locs hP hD hS ls hl
      rcases Decidable.em ((xs (iI (i : Int)).toNatClampNeg &&& 31) = 10) with c10 | c10
      · refine lv_tableIn (off := 346) (tgt := 378) hx hb dL_law_32 (by rw [c10]; decide) (by rw [c10]; decide) (by rw [c10]; rfl) (by decide) ?_
        exact lw_boils N hst.2.2.2.2.2.2.2.2.2.2.1 a b2 cy i hL hlt hx hb hml hown hts hX hbl hK kk IC AC TC IM AM TM hrel H locs hP hD hS ls hl
      rcases Decidable.em ((xs (iI (i : Int)).toNatClampNeg &&& 31) = 11) with c11 | c11
      · refine lv_tableIn (off := 359) (tgt := 391) hx hb dL_law_32 (by rw [c11]; decide) (by rw [c11]; decide) (by rw [c11]; rfl) (by decide) ?_
        exact lw_undo N hst.2.2.2.2.2.2.2.2.2.2.2.1 a b2 cy i hL hlt hx hb hml hown hts hX hbl hK kk IC AC TC IM AM TM hrel H locs hP hD hS ls hl
      rcases Decidable.em ((xs (iI (i : Int)).toNatClampNeg &&& 31) = 12) with c12 | c12
      · refine lv_tableIn (off := 372) (tgt := 404) hx hb dL_law_32 (by rw [c12]; decide) (by rw [c12]; decide) (by rw [c12]; rfl) (by decide) ?_
        exact lw_morning N hst.2.2.2.2.2.2.2.2.2.2.2.2.1 a b2 cy i hL hlt hx hb hml hown hts hX hbl hK kk IC AC TC IM AM TM hrel H locs hP hD hS ls hl
      rcases Decidable.em ((xs (iI (i : Int)).toNatClampNeg &&& 31) = 13) with c13 | c13
      · refine lv_tableIn (off := 405) (tgt := 437) hx hb dL_law_32 (by rw [c13]; decide) (by rw [c13]; decide) (by rw [c13]; rfl) (by decide) ?_
        exact lw_kept N hst.2.2.2.2.2.2.2.2.2.2.2.2.2.1 a b2 cy i hL hlt hx hb hml hown hts hX hbl hK kk IC AC TC IM AM TM hrel H locs hP hD hS ls hl
      rcases Decidable.em ((xs (iI (i : Int)).toNatClampNeg &&& 31) = 14) with c14 | c14
      · refine lv_tableIn (off := 428) (tgt := 460) hx hb dL_law_32 (by rw [c14]; decide) (by rw [c14]; decide) (by rw [c14]; rfl) (by decide) ?_
        exact lw_beds N hst.2.2.2.2.2.2.2.2.2.2.2.2.2.2.1 a b2 cy i hL hlt hx hb hml hown hts hX hbl hT hZ hK kk IC AC TC IM AM TM hrel H locs hP hD hS ls hl
      rcases Decidable.em ((xs (iI (i : Int)).toNatClampNeg &&& 31) = 15) with c15 | c15
      · refine lv_tableIn (off := 451) (tgt := 483) hx hb dL_law_32 (by rw [c15]; decide) (by rw [c15]; decide) (by rw [c15]; rfl) (by decide) ?_
        exact lw_odds N hst.2.2.2.2.2.2.2.2.2.2.2.2.2.2.2.1 a b2 cy i hL hlt hx hb hml hown hts hX hbl hK kk IC AC TC IM AM TM hrel H locs hP hD hS ls hl
      rcases Decidable.em ((xs (iI (i : Int)).toNatClampNeg &&& 31) = 16) with c16 | c16
      · refine lv_tableIn (off := 504) (tgt := 536) hx hb dL_law_32 (by rw [c16]; decide) (by rw [c16]; decide) (by rw [c16]; rfl) (by decide) ?_
        exact lw_hears N hst.2.2.2.2.2.2.2.2.2.2.2.2.2.2.2.2.1 a b2 cy i hL hlt hx hb hml hown hts hX hbl hK kk IC AC TC IM AM TM hrel H locs hP hD hS ls hl
      rcases Decidable.em ((xs (iI (i : Int)).toNatClampNeg &&& 31) = 17) with c17 | c17
      · refine lv_tableIn (off := 537) (tgt := 569) hx hb dL_law_32 (by rw [c17]; decide) (by rw [c17]; decide) (by rw [c17]; rfl) (by decide) ?_
        exact lw_forget N hst.2.2.2.2.2.2.2.2.2.2.2.2.2.2.2.2.2.1 a b2 cy i hL hlt hx hb hml hown hts hX hbl hK kk IC AC TC IM AM TM hrel H locs hP hD hS ls hl
      rcases Decidable.em ((xs (iI (i : Int)).toNatClampNeg &&& 31) = 18) with c18 | c18
      · refine lv_tableIn (off := 550) (tgt := 582) hx hb dL_law_32 (by rw [c18]; decide) (by rw [c18]; decide) (by rw [c18]; rfl) (by decide) ?_
        exact lw_who N hst.2.2.2.2.2.2.2.2.2.2.2.2.2.2.2.2.2.2.1 a b2 cy i hL hlt hx hb hml hown hts hX hbl hK kk IC AC TC IM AM TM hrel H locs hP hD hS ls hl
      rcases Decidable.em ((xs (iI (i : Int)).toNatClampNeg &&& 31) = 19) with c19 | c19
      · refine lv_tableIn (off := 563) (tgt := 595) hx hb dL_law_32 (by rw [c19]; decide) (by rw [c19]; decide) (by rw [c19]; rfl) (by decide) ?_
        exact lw_listen N hst.2.2.2.2.2.2.2.2.2.2.2.2.2.2.2.2.2.2.2.1 a b2 cy i hL hlt hx hb hml hown hts hX hbl hK kk IC AC TC IM AM TM hrel H locs hP hD hS ls hl
      rcases Decidable.em ((xs (iI (i : Int)).toNatClampNeg &&& 31) = 20) with c20 | c20
      · refine lv_tableIn (off := 576) (tgt := 608) hx hb dL_law_32 (by rw [c20]; decide) (by rw [c20]; decide) (by rw [c20]; rfl) (by decide) ?_
        exact lw_rate N hst.2.2.2.2.2.2.2.2.2.2.2.2.2.2.2.2.2.2.2.2.1 a b2 cy i hL hlt hx hb hml hown hts hX hbl hK kk IC AC TC IM AM TM hrel H locs hP hD hS ls hl
      rcases Decidable.em ((xs (iI (i : Int)).toNatClampNeg &&& 31) = 21) with c21 | c21
      · refine lv_tableIn (off := 609) (tgt := 641) hx hb dL_law_32 (by rw [c21]; decide) (by rw [c21]; decide) (by rw [c21]; rfl) (by decide) ?_
        exact lw_keep N hst.2.2.2.2.2.2.2.2.2.2.2.2.2.2.2.2.2.2.2.2.2.1 a b2 cy i hL hlt hx hb hml hown hts hX hbl hK kk IC AC TC IM AM TM hrel H locs hP hD hS ls hl
      rcases Decidable.em ((xs (iI (i : Int)).toNatClampNeg &&& 31) = 22) with c22 | c22
      · refine lv_tableIn (off := 632) (tgt := 664) hx hb dL_law_32 (by rw [c22]; decide) (by rw [c22]; decide) (by rw [c22]; rfl) (by decide) ?_
        exact lw_back N hst.2.2.2.2.2.2.2.2.2.2.2.2.2.2.2.2.2.2.2.2.2.2.1 a b2 cy i hL hlt hx hb hml hown hts hX hbl hK kk IC AC TC IM AM TM hrel H locs hP hD hS ls hl
      rcases Decidable.em ((xs (iI (i : Int)).toNatClampNeg &&& 31) = 23) with c23 | c23
      · refine lv_tableIn (off := 655) (tgt := 687) hx hb dL_law_32 (by rw [c23]; decide) (by rw [c23]; decide) (by rw [c23]; rfl) (by decide) ?_
        exact lw_count N hst.2.2.2.2.2.2.2.2.2.2.2.2.2.2.2.2.2.2.2.2.2.2.2.1 a b2 cy i hL hlt hx hb hml hown hts hX hbl hK kk IC AC TC IM AM TM hrel H locs hP hD hS ls hl
      rcases Decidable.em ((xs (iI (i : Int)).toNatClampNeg &&& 31) = 24) with c24 | c24
      · refine lv_tableIn (off := 678) (tgt := 710) hx hb dL_law_32 (by rw [c24]; decide) (by rw [c24]; decide) (by rw [c24]; rfl) (by decide) ?_
        exact lw_trace N hst.2.2.2.2.2.2.2.2.2.2.2.2.2.2.2.2.2.2.2.2.2.2.2.2 a b2 cy i hL hlt hx hb hml hown hts hX hbl hK kk IC AC TC IM AM TM hrel H locs hP hD hS ls hl
      refine lv_tableOut (tgt := 724) hx hb dL_law_32 (by have q0 := lv_neT (a := 0) c0 rfl; have q1 := lv_neT (a := 1) c1 rfl; have q2 := lv_neT (a := 2) c2 rfl; have q3 := lv_neT (a := 3) c3 rfl; have q4 := lv_neT (a := 4) c4 rfl; have q5 := lv_neT (a := 5) c5 rfl; have q6 := lv_neT (a := 6) c6 rfl; have q7 := lv_neT (a := 7) c7 rfl; have q8 := lv_neT (a := 8) c8 rfl; have q9 := lv_neT (a := 9) c9 rfl; have q10 := lv_neT (a := 10) c10 rfl; have q11 := lv_neT (a := 11) c11 rfl; have q12 := lv_neT (a := 12) c12 rfl; have q13 := lv_neT (a := 13) c13 rfl; have q14 := lv_neT (a := 14) c14 rfl; have q15 := lv_neT (a := 15) c15 rfl; have q16 := lv_neT (a := 16) c16 rfl; have q17 := lv_neT (a := 17) c17 rfl; have q18 := lv_neT (a := 18) c18 rfl; have q19 := lv_neT (a := 19) c19 rfl; have q20 := lv_neT (a := 20) c20 rfl; have q21 := lv_neT (a := 21) c21 rfl; have q22 := lv_neT (a := 22) c22 rfl; have q23 := lv_neT (a := 23) c23 rfl; have q24 := lv_neT (a := 24) c24 rfl; omega) (by decide) ?_
      exact kk IC AC TC IM AM TM hrel H locs hP hD hS ls hl
