theorem inX8_cools_X8 : ∀ w ∈ u_ws RX8 TX8 19, w ∈ wsX8_cools := by decide +kernel
theorem mX8_cools_0 : Cond.fieldLink RX8 13 "WarmBottlesModel" "told" "[I" ∈ wsX8_cools := List.mem_of_getElem? (i := 1) rfl
theorem mX8_cools_1 : Cond.fieldLink RX8 19 "WarmBottlesModel" "s" "[I" ∈ wsX8_cools := List.mem_of_getElem? (i := 2) rfl
def rm_X8_cools_M : Room := { frames := 3, cells := 0, slots := 0, locals := 210 }
def f_X8_cools_M_L5 (N : Nat) (k_5 : Int32 → Int32 → Option (Int32)) (x1 : Int32) (x2 : Int32) (I : (Nat → Int32)) (A : (Nat → Nat → Int32)) : Nat → Int32 → Int32 → Option (Int32)
  | 0, _, _ => none
  | n_5 + 1, x3, x4 => (if ((A 1) 0) ≤ x4 then (k_5 x3 x4) else (if (9 + x4) < 0 ∨ 15 ≤ ((9 + x4)).toNatClampNeg then none else (if (9 + x1) < 0 ∨ 15 ≤ ((9 + x1)).toNatClampNeg then none else (if ((A 3) ((9 + x4)).toNatClampNeg) = ((A 3) ((9 + x1)).toNatClampNeg) then (f_X8_cools_M_L5 N k_5 x1 x2 I A n_5 (x3 + 1) (x4 + 1)) else (f_X8_cools_M_L5 N k_5 x1 x2 I A n_5 (x3 + 0) (x4 + 1))))))
def f_X8_cools_M (N : Nat) (I : Nat → Int32) (A : Nat → Nat → Int32) (p1 : Int32) (p2 : Int32) : Option (Int32) := (f_X8_cools_M_L5 N (fun (x3 : Int32) (x4 : Int32) => (if (11 + p1) < 0 ∨ 23 ≤ ((11 + p1)).toNatClampNeg then none else (if 1 ≤ ((((A 1) ((11 + p1)).toNatClampNeg) + p2) - (2 * x3)) then some ((((A 1) ((11 + p1)).toNatClampNeg) + p2) - (2 * x3)) else some 1))) p1 p2 I A N (-1) 0)
set_option maxHeartbeats 4000000 in
set_option maxRecDepth 100000 in
theorem c_X8_cools_M (l : Launch) (dC : Nat → ClassId) (dI : Nat → Nat → Nat) (a : Nat → Nat) (cy : Nat → ClassId) (N : Nat) (I : Nat → Int32) (A : Nat → Nat → Int32) (T : Int64) (p1 : Int32) (p2 : Int32) (res : Int32) (h : f_X8_cools_M N I A p1 p2 = some res) (sz : Nat) : Met l yX8_cools wsX8_cools rm_X8_cools_M (g_Pre (dC, dI) cy [.ref (a 0), .int p1, .int p2] (wM a cy I A T) sz) (g_Qi (dC, dI) cy res (wM a cy I A T) (wM a cy I A T) sz) 0 0 (va_A (wM a cy I A T) sz) := by
  unfold f_X8_cools_M at h
  refine g_entry _ _ _ _ _ _ (cc := cX8_cools) (maxL := 5) (ret := (some .int)) (by decide) rfl (Nat.le_of_ble_eq_true rfl) ?_
  intro p e s m args below meth c ls hx hb hml hown hts hr hlocks hA hK hP hD hS hl Q hQ
  have hl : lv_has ls 5 [(0, .ref (a 0)), (1, .int p1), (2, .int p2)] := hl
  have hown : s.vm.findClass RX8 = some m.cls := hown
  refine lv_iconst (v := (-1)) hx hb dX8_cools_0 (by decide) ?_
  refine lv_istore_n (lv' := [(3, .int (-1)), (0, .ref (a 0)), (1, .int p1), (2, .int p2)]) hx hb dX8_cools_1 rfl hl (by decide) rfl (fun ls hl => ?_)
  refine lv_iconst (v := 0) hx hb dX8_cools_2 (by decide) ?_
  refine lv_istore (lv' := [(4, .int 0), (3, .int (-1)), (0, .ref (a 0)), (1, .int p1), (2, .int p2)]) hx hb dX8_cools_3 hl (by decide) rfl (fun ls hl => ?_)
  have lp5 : ∀ (x1 : Int32) (x2 : Int32) (k_5 : Int32 → Int32 → Option (Int32)), (∀ (x3 : Int32) (x4 : Int32), k_5 x3 x4 = some res → g_At (dC, dI) p l e (headSpec wsX8_cools rm_X8_cools_M).room s m args below meth c Q (wM a cy I A T) sz 5 (wM a cy I A T) [(0, .ref (a 0)), (1, .int x1), (2, .int x2), (3, .int x3)] 52 []) → ∀ (n_5 : Nat) (x3 : Int32) (x4 : Int32), f_X8_cools_M_L5 N k_5 x1 x2 I A n_5 x3 x4 = some res → g_At (dC, dI) p l e (headSpec wsX8_cools rm_X8_cools_M).room s m args below meth c Q (wM a cy I A T) sz 5 (wM a cy I A T) [(0, .ref (a 0)), (1, .int x1), (2, .int x2), (3, .int x3), (4, .int x4)] 5 [] := by
    intro x1 x2 k_5 hk_5 n_5
    induction n_5 with
    | zero =>
      intro x3 x4 h
      exact absurd h (by rw [f_X8_cools_M_L5]; exact fun q => by cases q)
    | succ n_5 ih5 =>
      intro x3 x4 h H locs hP hD hS ls hl
      rw [f_X8_cools_M_L5] at h
      refine lv_iload hx hb dX8_cools_5 (lv_at hl 4 rfl) ?_
      refine lv_aload_n hx hb dX8_cools_7 rfl (lv_at hl 0 rfl) ?_
      refine va_get (D := (dC, dI)) (ci := 8) (v := .ref (a 2)) (C := RX8) (T := TX8) (N := 19) hx hb hts inX8_cools_X8 hown hK hP 0 (eM_0 a cy I A T) rfl 3 (by decide) (hts _ mX8_cools_0) (fun _ h9 => h9) rfl dX8_cools_8 ?_
      refine lv_iconst (v := 0) hx hb dX8_cools_11 (by decide) ?_
      refine g_iald (f := (A 1)) (j := 0) hx hb hK hP 2 (eM_2 a cy I A T) (lit_in (by decide) : vp_in 0 23) rfl dX8_cools_12 ?_
      refine lv_icmp_ge (tgt := 52) hx hb dX8_cools_13 (by decide) (fun c3 => ?_) (fun c3 => ?_)
      · replace h := ite_t h c3
        exact hk_5 _ _ h _ _ hP hD hS _ (lv_sub hl [0, 1, 2, 3] rfl)
      · replace h := ite_f h c3
        refine lv_iload_n hx hb dX8_cools_16 rfl (lv_at hl 3 rfl) ?_
        refine lv_aload_n hx hb dX8_cools_17 rfl (lv_at hl 0 rfl) ?_
        refine va_get (D := (dC, dI)) (ci := 8) (v := .ref (a 4)) (C := RX8) (T := TX8) (N := 19) hx hb hts inX8_cools_X8 hown hK hP 0 (eM_0 a cy I A T) rfl 5 (by decide) (hts _ mX8_cools_1) (fun _ h9 => h9) rfl dX8_cools_18 ?_
        refine lv_bipush (v := 9) hx hb dX8_cools_21 (by decide) ?_
        refine lv_iload hx hb dX8_cools_23 (lv_at hl 4 rfl) ?_
        refine lv_iadd hx hb dX8_cools_25 ?_
        obtain ⟨i4, h⟩ := inb_some h
        refine g_iald (f := (A 3)) (j := ((9 + x4)).toNatClampNeg) hx hb hK hP 4 (eM_4 a cy I A T) i4 rfl dX8_cools_26 ?_
        refine lv_aload_n hx hb dX8_cools_27 rfl (lv_at hl 0 rfl) ?_
        refine va_get (D := (dC, dI)) (ci := 8) (v := .ref (a 4)) (C := RX8) (T := TX8) (N := 19) hx hb hts inX8_cools_X8 hown hK hP 0 (eM_0 a cy I A T) rfl 5 (by decide) (hts _ mX8_cools_1) (fun _ h9 => h9) rfl dX8_cools_28 ?_
        refine lv_bipush (v := 9) hx hb dX8_cools_31 (by decide) ?_
        refine lv_iload_n hx hb dX8_cools_33 rfl (lv_at hl 1 rfl) ?_
        refine lv_iadd hx hb dX8_cools_34 ?_
        obtain ⟨i5, h⟩ := inb_some h
        refine g_iald (f := (A 3)) (j := ((9 + x1)).toNatClampNeg) hx hb hK hP 4 (eM_4 a cy I A T) i5 rfl dX8_cools_35 ?_
        refine lv_icmp_ne (tgt := 43) hx hb dX8_cools_36 (by decide) (fun c6 => ?_) (fun c6 => ?_)
        · replace h := ite_f h c6
          refine lv_iconst (v := 0) hx hb dX8_cools_43 (by decide) ?_
          refine lv_iadd hx hb dX8_cools_44 ?_
          refine lv_istore_n (lv' := [(3, .int (x3 + 0)), (0, .ref (a 0)), (1, .int x1), (2, .int x2), (4, .int x4)]) hx hb dX8_cools_45 rfl hl (by decide) rfl (fun ls hl => ?_)
          refine lv_iinc (v := (x4 + 1)) (lv' := [(4, .int (x4 + 1)), (3, .int (x3 + 0)), (0, .ref (a 0)), (1, .int x1), (2, .int x2)]) hx hb dX8_cools_46 hl (k := 4) rfl rfl (by decide) rfl (fun ls hl => ?_)
          refine lv_goto (tgt := 5) hx hb dX8_cools_49 (by decide) ?_
          exact ih5 _ _ h _ _ hP hD hS _ (lv_sub hl [2, 3, 4, 1, 0] rfl)
        · replace h := ite_t h c6
          refine lv_iconst (v := 1) hx hb dX8_cools_39 (by decide) ?_
          refine lv_goto (tgt := 44) hx hb dX8_cools_40 (by decide) ?_
          refine lv_iadd hx hb dX8_cools_44 ?_
          refine lv_istore_n (lv' := [(3, .int (x3 + 1)), (0, .ref (a 0)), (1, .int x1), (2, .int x2), (4, .int x4)]) hx hb dX8_cools_45 rfl hl (by decide) rfl (fun ls hl => ?_)
          refine lv_iinc (v := (x4 + 1)) (lv' := [(4, .int (x4 + 1)), (3, .int (x3 + 1)), (0, .ref (a 0)), (1, .int x1), (2, .int x2)]) hx hb dX8_cools_46 hl (k := 4) rfl rfl (by decide) rfl (fun ls hl => ?_)
          refine lv_goto (tgt := 5) hx hb dX8_cools_49 (by decide) ?_
          exact ih5 _ _ h _ _ hP hD hS _ (lv_sub hl [2, 3, 4, 1, 0] rfl)
  refine lp5 _ _ _ ?_ N _ _ h _ _ hP hD hS _ (lv_sub hl [2, 3, 4, 1, 0] rfl)
  intro x3 x4 h H locs hP hD hS ls hl
  refine lv_aload_n hx hb dX8_cools_52 rfl (lv_at hl 0 rfl) ?_
  refine va_get (D := (dC, dI)) (ci := 8) (v := .ref (a 2)) (C := RX8) (T := TX8) (N := 19) hx hb hts inX8_cools_X8 hown hK hP 0 (eM_0 a cy I A T) rfl 3 (by decide) (hts _ mX8_cools_0) (fun _ h9 => h9) rfl dX8_cools_53 ?_
  refine lv_bipush (v := 11) hx hb dX8_cools_56 (by decide) ?_
  refine lv_iload_n hx hb dX8_cools_58 rfl (lv_at hl 1 rfl) ?_
  refine lv_iadd hx hb dX8_cools_59 ?_
  obtain ⟨i1, h⟩ := inb_some h
  refine g_iald (f := (A 1)) (j := ((11 + p1)).toNatClampNeg) hx hb hK hP 2 (eM_2 a cy I A T) i1 rfl dX8_cools_60 ?_
  refine lv_iload_n hx hb dX8_cools_61 rfl (lv_at hl 2 rfl) ?_
  refine lv_iadd hx hb dX8_cools_62 ?_
  refine lv_iconst (v := 2) hx hb dX8_cools_63 (by decide) ?_
  refine lv_iload_n hx hb dX8_cools_64 rfl (lv_at hl 3 rfl) ?_
  refine lv_imul hx hb dX8_cools_65 ?_
  refine lv_isub hx hb dX8_cools_66 ?_
  refine lv_istore (lv' := [(4, .int ((((A 1) ((11 + p1)).toNatClampNeg) + p2) - (2 * x3))), (0, .ref (a 0)), (1, .int p1), (2, .int p2), (3, .int x3)]) hx hb dX8_cools_67 hl (by decide) rfl (fun ls hl => ?_)
  refine lv_iload hx hb dX8_cools_69 (lv_at hl 0 rfl) ?_
  refine lv_iconst (v := 1) hx hb dX8_cools_71 (by decide) ?_
  refine lv_icmp_ge (tgt := 79) hx hb dX8_cools_72 (by decide) (fun c2 => ?_) (fun c2 => ?_)
  · replace h := ite_t h c2
    refine lv_iload hx hb dX8_cools_79 (lv_at hl 0 rfl) ?_
    obtain rfl := Option.some.inj h
    exact g_iret hx hb hr hK hP hD hS hQ dX8_cools_81
  · replace h := ite_f h c2
    refine lv_iconst (v := 1) hx hb dX8_cools_75 (by decide) ?_
    refine lv_goto (tgt := 81) hx hb dX8_cools_76 (by decide) ?_
    obtain rfl := Option.some.inj h
    exact g_iret hx hb hr hK hP hD hS hQ dX8_cools_81
theorem inX8_lasts_X8 : ∀ w ∈ u_ws RX8 TX8 19, w ∈ wsX8_lasts := by decide +kernel
theorem mX8_lasts_0 : Cond.fieldLink RX8 19 "WarmBottlesModel" "s" "[I" ∈ wsX8_lasts := List.mem_of_getElem? (i := 1) rfl
def rm_X8_lasts_M : Room := { frames := 5, cells := 0, slots := 0, locals := 270 }
def f_X8_lasts_M (N : Nat) (I : Nat → Int32) (A : Nat → Nat → Int32) (p1 : Int32) : Option (Int32) := (Option.bind (f_X8_cools_M N I A p1 ((A 3) 1)) (fun r1 => (if (3 + p1) < 0 ∨ 15 ≤ ((3 + p1)).toNatClampNeg then none else (if r1 = 0 then none else some (((((A 3) ((3 + p1)).toNatClampNeg) + r1) - 1) / r1)))))
set_option maxHeartbeats 4000000 in
set_option maxRecDepth 100000 in
theorem c_X8_lasts_M (l : Launch) (dC : Nat → ClassId) (dI : Nat → Nat → Nat) (a : Nat → Nat) (cy : Nat → ClassId) (N : Nat) (I : Nat → Int32) (A : Nat → Nat → Int32) (T : Int64) (p1 : Int32) (res : Int32) (h : f_X8_lasts_M N I A p1 = some res) (sz : Nat) : Met l yX8_lasts wsX8_lasts rm_X8_lasts_M (g_Pre (dC, dI) cy [.ref (a 0), .int p1] (wM a cy I A T) sz) (g_Qi (dC, dI) cy res (wM a cy I A T) (wM a cy I A T) sz) 0 0 (va_A (wM a cy I A T) sz) := by
  unfold f_X8_lasts_M at h
  refine g_entry _ _ _ _ _ _ (cc := cX8_lasts) (maxL := 3) (ret := (some .int)) (by decide) rfl (Nat.le_of_ble_eq_true rfl) ?_
  intro p e s m args below meth c ls hx hb hml hown hts hr hlocks hA hK hP hD hS hl Q hQ
  have hl : lv_has ls 3 [(0, .ref (a 0)), (1, .int p1)] := hl
  have hown : s.vm.findClass RX8 = some m.cls := hown
  refine lv_aload_n hx hb dX8_lasts_0 rfl (lv_at hl 0 rfl) ?_
  refine lv_iload_n hx hb dX8_lasts_1 rfl (lv_at hl 1 rfl) ?_
  refine lv_aload_n hx hb dX8_lasts_2 rfl (lv_at hl 0 rfl) ?_
  refine va_get (D := (dC, dI)) (ci := 8) (v := .ref (a 4)) (C := RX8) (T := TX8) (N := 19) hx hb hts inX8_lasts_X8 hown hK hP 0 (eM_0 a cy I A T) rfl 5 (by decide) (hts _ mX8_lasts_0) (fun _ h9 => h9) rfl dX8_lasts_3 ?_
  refine lv_iconst (v := 1) hx hb dX8_lasts_6 (by decide) ?_
  refine g_iald (f := (A 3)) (j := 1) hx hb hK hP 4 (eM_4 a cy I A T) (lit_in (by decide) : vp_in 1 15) rfl dX8_lasts_7 ?_
  obtain ⟨r1, hr1, h⟩ := bnd_some h
  refine g_callVi (As := [.int p1, .int ((A 3) 1)]) (rest := []) (ci := 8) (q0 := 0) hx hb hml hown hts (c_X8_cools_M l dC dI a cy N I A T p1 ((A 3) 1) r1 hr1) (cwV 2 hts gX8_lasts_X8_cools rfl rfl rfl (by decide +kernel) ⟨Nat.le_of_ble_eq_true rfl, Nat.le_of_ble_eq_true rfl⟩) hK hP hD hS hA rfl (eM_0 a cy I A T) rfl rfl hl.1 rfl (Nat.le_of_ble_eq_true rfl) dX8_lasts_8 (fun H locs hP hD hS => ?_)
  refine lv_istore_n (lv' := [(2, .int r1), (0, .ref (a 0)), (1, .int p1)]) hx hb dX8_lasts_11 rfl hl (by decide) rfl (fun ls hl => ?_)
  refine lv_aload_n hx hb dX8_lasts_12 rfl (lv_at hl 1 rfl) ?_
  refine va_get (D := (dC, dI)) (ci := 8) (v := .ref (a 4)) (C := RX8) (T := TX8) (N := 19) hx hb hts inX8_lasts_X8 hown hK hP 0 (eM_0 a cy I A T) rfl 5 (by decide) (hts _ mX8_lasts_0) (fun _ h9 => h9) rfl dX8_lasts_13 ?_
  refine lv_iconst (v := 3) hx hb dX8_lasts_16 (by decide) ?_
  refine lv_iload_n hx hb dX8_lasts_17 rfl (lv_at hl 2 rfl) ?_
  refine lv_iadd hx hb dX8_lasts_18 ?_
  obtain ⟨i2, h⟩ := inb_some h
  refine g_iald (f := (A 3)) (j := ((3 + p1)).toNatClampNeg) hx hb hK hP 4 (eM_4 a cy I A T) i2 rfl dX8_lasts_19 ?_
  refine lv_iload_n hx hb dX8_lasts_20 rfl (lv_at hl 0 rfl) ?_
  refine lv_iadd hx hb dX8_lasts_21 ?_
  refine lv_iconst (v := 1) hx hb dX8_lasts_22 (by decide) ?_
  refine lv_isub hx hb dX8_lasts_23 ?_
  refine lv_iload_n hx hb dX8_lasts_24 rfl (lv_at hl 0 rfl) ?_
  obtain ⟨z3, h⟩ := nz_some h
  refine lv_idiv hx hb dX8_lasts_25 z3 ?_
  obtain rfl := Option.some.inj h
  exact g_iret hx hb hr hK hP hD hS hQ dX8_lasts_26
theorem inX8_bottle_X8 : ∀ w ∈ u_ws RX8 TX8 19, w ∈ wsX8_bottle := by decide +kernel
theorem mX8_bottle_0 : Cond.fieldLink RX8 19 "WarmBottlesModel" "s" "[I" ∈ wsX8_bottle := List.mem_of_getElem? (i := 1) rfl
theorem mX8_bottle_1 : Cond.fieldLink RX8 13 "WarmBottlesModel" "told" "[I" ∈ wsX8_bottle := List.mem_of_getElem? (i := 2) rfl
def rm_X8_bottle_M : Room := { frames := 7, cells := 0, slots := 0, locals := 330 }
def f_X8_bottle_M (N : Nat) (I : Nat → Int32) (A : Nat → Nat → Int32) (p1 : Int32) (p2 : Int32) : Option (Int32) := (Option.bind (f_X8_isBottle_M N I A p1) (fun r1 => (if r1 = 0 then some (-1) else (if p2 = 0 then (if (3 + p1) < 0 ∨ 15 ≤ ((3 + p1)).toNatClampNeg then none else some ((A 3) ((3 + p1)).toNatClampNeg)) else (if p2 = 1 then (if (11 + p1) < 0 ∨ 23 ≤ ((11 + p1)).toNatClampNeg then none else some ((A 1) ((11 + p1)).toNatClampNeg)) else (if p2 = 2 then (if (17 + p1) < 0 ∨ 23 ≤ ((17 + p1)).toNatClampNeg then none else some ((A 1) ((17 + p1)).toNatClampNeg)) else (if p2 = 3 then (if (9 + p1) < 0 ∨ 15 ≤ ((9 + p1)).toNatClampNeg then none else some ((A 3) ((9 + p1)).toNatClampNeg)) else (if p2 = 4 then (if (3 + p1) < 0 ∨ 15 ≤ ((3 + p1)).toNatClampNeg then none else (Option.bind (f_X8_soundOf_M N I A p1 ((A 3) ((3 + p1)).toNatClampNeg)) (fun r13 => some r13))) else (if p2 = 5 then (Option.bind (f_X8_lasts_M N I A p1) (fun r15 => some r15)) else some (-1))))))))))
set_option maxHeartbeats 4000000 in
set_option maxRecDepth 100000 in
theorem c_X8_bottle_M (l : Launch) (dC : Nat → ClassId) (dI : Nat → Nat → Nat) (a : Nat → Nat) (cy : Nat → ClassId) (N : Nat) (I : Nat → Int32) (A : Nat → Nat → Int32) (T : Int64) (p1 : Int32) (p2 : Int32) (res : Int32) (h : f_X8_bottle_M N I A p1 p2 = some res) (sz : Nat) : Met l yX8_bottle wsX8_bottle rm_X8_bottle_M (g_Pre (dC, dI) cy [.ref (a 0), .int p1, .int p2] (wM a cy I A T) sz) (g_Qi (dC, dI) cy res (wM a cy I A T) (wM a cy I A T) sz) 0 0 (va_A (wM a cy I A T) sz) := by
  unfold f_X8_bottle_M at h
  refine g_entry _ _ _ _ _ _ (cc := cX8_bottle) (maxL := 3) (ret := (some .int)) (by decide) rfl (Nat.le_of_ble_eq_true rfl) ?_
  intro p e s m args below meth c ls hx hb hml hown hts hr hlocks hA hK hP hD hS hl Q hQ
  have hl : lv_has ls 3 [(0, .ref (a 0)), (1, .int p1), (2, .int p2)] := hl
  have hown : s.vm.findClass RX8 = some m.cls := hown
  refine lv_aload_n hx hb dX8_bottle_0 rfl (lv_at hl 0 rfl) ?_
  refine lv_iload_n hx hb dX8_bottle_1 rfl (lv_at hl 1 rfl) ?_
  obtain ⟨r1, hr1, h⟩ := bnd_some h
  refine g_callVi (As := [.int p1]) (rest := []) (ci := 8) (q0 := 0) hx hb hml hown hts (c_X8_isBottle_M l dC dI a cy N I A T p1 r1 hr1) (cwV 1 hts gX8_bottle_X8_isBottle rfl rfl rfl (by decide +kernel) ⟨Nat.le_of_ble_eq_true rfl, Nat.le_of_ble_eq_true rfl⟩) hK hP hD hS hA rfl (eM_0 a cy I A T) rfl rfl hl.1 rfl (Nat.le_of_ble_eq_true rfl) dX8_bottle_2 (fun H locs hP hD hS => ?_)
  refine lv_if_ne (tgt := 10) hx hb dX8_bottle_5 (by decide) (fun c2 => ?_) (fun c2 => ?_)
  · replace h := ite_f h c2
    refine lv_iload_n hx hb dX8_bottle_10 rfl (lv_at hl 2 rfl) ?_
    rcases Decidable.em (p2 = 0) with c3 | c3
    · replace h := ite_t h c3
      refine lv_tableIn (off := 37) (tgt := 48) hx hb dX8_bottle_11 (by rw [c3]; decide) (by rw [c3]; decide) (by rw [c3]; rfl) (by decide) ?_
      refine lv_aload_n hx hb dX8_bottle_48 rfl (lv_at hl 0 rfl) ?_
      refine va_get (D := (dC, dI)) (ci := 8) (v := .ref (a 4)) (C := RX8) (T := TX8) (N := 19) hx hb hts inX8_bottle_X8 hown hK hP 0 (eM_0 a cy I A T) rfl 5 (by decide) (hts _ mX8_bottle_0) (fun _ h9 => h9) rfl dX8_bottle_49 ?_
      refine lv_iconst (v := 3) hx hb dX8_bottle_52 (by decide) ?_
      refine lv_iload_n hx hb dX8_bottle_53 rfl (lv_at hl 1 rfl) ?_
      refine lv_iadd hx hb dX8_bottle_54 ?_
      obtain ⟨i4, h⟩ := inb_some h
      refine g_iald (f := (A 3)) (j := ((3 + p1)).toNatClampNeg) hx hb hK hP 4 (eM_4 a cy I A T) i4 rfl dX8_bottle_55 ?_
      obtain rfl := Option.some.inj h
      exact g_iret hx hb hr hK hP hD hS hQ dX8_bottle_56
    · replace h := ite_f h c3
      rcases Decidable.em (p2 = 1) with c5 | c5
      · replace h := ite_t h c5
        refine lv_tableIn (off := 46) (tgt := 57) hx hb dX8_bottle_11 (by rw [c5]; decide) (by rw [c5]; decide) (by rw [c5]; rfl) (by decide) ?_
        refine lv_aload_n hx hb dX8_bottle_57 rfl (lv_at hl 0 rfl) ?_
        refine va_get (D := (dC, dI)) (ci := 8) (v := .ref (a 2)) (C := RX8) (T := TX8) (N := 19) hx hb hts inX8_bottle_X8 hown hK hP 0 (eM_0 a cy I A T) rfl 3 (by decide) (hts _ mX8_bottle_1) (fun _ h9 => h9) rfl dX8_bottle_58 ?_
        refine lv_bipush (v := 11) hx hb dX8_bottle_61 (by decide) ?_
        refine lv_iload_n hx hb dX8_bottle_63 rfl (lv_at hl 1 rfl) ?_
        refine lv_iadd hx hb dX8_bottle_64 ?_
        obtain ⟨i6, h⟩ := inb_some h
        refine g_iald (f := (A 1)) (j := ((11 + p1)).toNatClampNeg) hx hb hK hP 2 (eM_2 a cy I A T) i6 rfl dX8_bottle_65 ?_
        obtain rfl := Option.some.inj h
        exact g_iret hx hb hr hK hP hD hS hQ dX8_bottle_66
      · replace h := ite_f h c5
        rcases Decidable.em (p2 = 2) with c7 | c7
        · replace h := ite_t h c7
          refine lv_tableIn (off := 56) (tgt := 67) hx hb dX8_bottle_11 (by rw [c7]; decide) (by rw [c7]; decide) (by rw [c7]; rfl) (by decide) ?_
          refine lv_aload_n hx hb dX8_bottle_67 rfl (lv_at hl 0 rfl) ?_
          refine va_get (D := (dC, dI)) (ci := 8) (v := .ref (a 2)) (C := RX8) (T := TX8) (N := 19) hx hb hts inX8_bottle_X8 hown hK hP 0 (eM_0 a cy I A T) rfl 3 (by decide) (hts _ mX8_bottle_1) (fun _ h9 => h9) rfl dX8_bottle_68 ?_
          refine lv_bipush (v := 17) hx hb dX8_bottle_71 (by decide) ?_
          refine lv_iload_n hx hb dX8_bottle_73 rfl (lv_at hl 1 rfl) ?_
          refine lv_iadd hx hb dX8_bottle_74 ?_
          obtain ⟨i8, h⟩ := inb_some h
          refine g_iald (f := (A 1)) (j := ((17 + p1)).toNatClampNeg) hx hb hK hP 2 (eM_2 a cy I A T) i8 rfl dX8_bottle_75 ?_
          obtain rfl := Option.some.inj h
          exact g_iret hx hb hr hK hP hD hS hQ dX8_bottle_76
        · replace h := ite_f h c7
          rcases Decidable.em (p2 = 3) with c9 | c9
          · replace h := ite_t h c9
            refine lv_tableIn (off := 66) (tgt := 77) hx hb dX8_bottle_11 (by rw [c9]; decide) (by rw [c9]; decide) (by rw [c9]; rfl) (by decide) ?_
            refine lv_aload_n hx hb dX8_bottle_77 rfl (lv_at hl 0 rfl) ?_
            refine va_get (D := (dC, dI)) (ci := 8) (v := .ref (a 4)) (C := RX8) (T := TX8) (N := 19) hx hb hts inX8_bottle_X8 hown hK hP 0 (eM_0 a cy I A T) rfl 5 (by decide) (hts _ mX8_bottle_0) (fun _ h9 => h9) rfl dX8_bottle_78 ?_
            refine lv_bipush (v := 9) hx hb dX8_bottle_81 (by decide) ?_
            refine lv_iload_n hx hb dX8_bottle_83 rfl (lv_at hl 1 rfl) ?_
            refine lv_iadd hx hb dX8_bottle_84 ?_
            obtain ⟨i10, h⟩ := inb_some h
            refine g_iald (f := (A 3)) (j := ((9 + p1)).toNatClampNeg) hx hb hK hP 4 (eM_4 a cy I A T) i10 rfl dX8_bottle_85 ?_
            obtain rfl := Option.some.inj h
            exact g_iret hx hb hr hK hP hD hS hQ dX8_bottle_86
          · replace h := ite_f h c9
            rcases Decidable.em (p2 = 4) with c11 | c11
            · replace h := ite_t h c11
              refine lv_tableIn (off := 76) (tgt := 87) hx hb dX8_bottle_11 (by rw [c11]; decide) (by rw [c11]; decide) (by rw [c11]; rfl) (by decide) ?_
              refine lv_aload_n hx hb dX8_bottle_87 rfl (lv_at hl 0 rfl) ?_
              refine lv_iload_n hx hb dX8_bottle_88 rfl (lv_at hl 1 rfl) ?_
              refine lv_aload_n hx hb dX8_bottle_89 rfl (lv_at hl 0 rfl) ?_
              refine va_get (D := (dC, dI)) (ci := 8) (v := .ref (a 4)) (C := RX8) (T := TX8) (N := 19) hx hb hts inX8_bottle_X8 hown hK hP 0 (eM_0 a cy I A T) rfl 5 (by decide) (hts _ mX8_bottle_0) (fun _ h9 => h9) rfl dX8_bottle_90 ?_
              refine lv_iconst (v := 3) hx hb dX8_bottle_93 (by decide) ?_
              refine lv_iload_n hx hb dX8_bottle_94 rfl (lv_at hl 1 rfl) ?_
              refine lv_iadd hx hb dX8_bottle_95 ?_
              obtain ⟨i12, h⟩ := inb_some h
              refine g_iald (f := (A 3)) (j := ((3 + p1)).toNatClampNeg) hx hb hK hP 4 (eM_4 a cy I A T) i12 rfl dX8_bottle_96 ?_
              obtain ⟨r13, hr13, h⟩ := bnd_some h
              refine g_callVi (As := [.int p1, .int ((A 3) ((3 + p1)).toNatClampNeg)]) (rest := []) (ci := 8) (q0 := 0) hx hb hml hown hts (c_X8_soundOf_M l dC dI a cy N I A T p1 ((A 3) ((3 + p1)).toNatClampNeg) r13 hr13) (cwV 2 hts gX8_bottle_X8_soundOf rfl rfl rfl (by decide +kernel) ⟨Nat.le_of_ble_eq_true rfl, Nat.le_of_ble_eq_true rfl⟩) hK hP hD hS hA rfl (eM_0 a cy I A T) rfl rfl hl.1 rfl (Nat.le_of_ble_eq_true rfl) dX8_bottle_97 (fun H locs hP hD hS => ?_)
              obtain rfl := Option.some.inj h
              exact g_iret hx hb hr hK hP hD hS hQ dX8_bottle_100
            · replace h := ite_f h c11
              rcases Decidable.em (p2 = 5) with c14 | c14
              · replace h := ite_t h c14
                refine lv_tableIn (off := 90) (tgt := 101) hx hb dX8_bottle_11 (by rw [c14]; decide) (by rw [c14]; decide) (by rw [c14]; rfl) (by decide) ?_
                refine lv_aload_n hx hb dX8_bottle_101 rfl (lv_at hl 0 rfl) ?_
                refine lv_iload_n hx hb dX8_bottle_102 rfl (lv_at hl 1 rfl) ?_
                obtain ⟨r15, hr15, h⟩ := bnd_some h
                refine g_callVi (As := [.int p1]) (rest := []) (ci := 8) (q0 := 0) hx hb hml hown hts (c_X8_lasts_M l dC dI a cy N I A T p1 r15 hr15) (cwV 1 hts gX8_bottle_X8_lasts rfl rfl rfl (by decide +kernel) ⟨Nat.le_of_ble_eq_true rfl, Nat.le_of_ble_eq_true rfl⟩) hK hP hD hS hA rfl (eM_0 a cy I A T) rfl rfl hl.1 rfl (Nat.le_of_ble_eq_true rfl) dX8_bottle_103 (fun H locs hP hD hS => ?_)
                obtain rfl := Option.some.inj h
                exact g_iret hx hb hr hK hP hD hS hQ dX8_bottle_106
              · replace h := ite_f h c14
                refine lv_tableOut (tgt := 107) hx hb dX8_bottle_11 (by have q0 := lv_neT (a := 0) c3 rfl; have q1 := lv_neT (a := 1) c5 rfl; have q2 := lv_neT (a := 2) c7 rfl; have q3 := lv_neT (a := 3) c9 rfl; have q4 := lv_neT (a := 4) c11 rfl; have q5 := lv_neT (a := 5) c14 rfl; omega) (by decide) ?_
                refine lv_iconst (v := (-1)) hx hb dX8_bottle_107 (by decide) ?_
                obtain rfl := Option.some.inj h
                exact g_iret hx hb hr hK hP hD hS hQ dX8_bottle_108
  · replace h := ite_t h c2
    refine lv_iconst (v := (-1)) hx hb dX8_bottle_8 (by decide) ?_
    obtain rfl := Option.some.inj h
    exact g_iret hx hb hr hK hP hD hS hQ dX8_bottle_9
theorem inX8_allLast_X8 : ∀ w ∈ u_ws RX8 TX8 19, w ∈ wsX8_allLast := by decide +kernel
theorem mX8_allLast_0 : Cond.fieldLink RX8 13 "WarmBottlesModel" "told" "[I" ∈ wsX8_allLast := List.mem_of_getElem? (i := 1) rfl
def rm_X8_allLast_M : Room := { frames := 7, cells := 0, slots := 0, locals := 330 }
def f_X8_allLast_M_L5 (N : Nat) (k_5 : Int32 → Int32 → Option (Int32)) (I : (Nat → Int32)) (A : (Nat → Nat → Int32)) : Nat → Int32 → Int32 → Option (Int32)
  | 0, _, _ => none
  | n_5 + 1, x1, x2 => (if ((A 1) 0) ≤ x2 then (k_5 x1 x2) else (if x1 = (-9) then (Option.bind (f_X8_lasts_M N I A x2) (fun r3 => (f_X8_allLast_M_L5 N k_5 I A n_5 r3 (x2 + 1)))) else (Option.bind (f_X8_lasts_M N I A x2) (fun r4 => (if x1 ≤ r4 then (f_X8_allLast_M_L5 N k_5 I A n_5 x1 (x2 + 1)) else (Option.bind (f_X8_lasts_M N I A x2) (fun r6 => (f_X8_allLast_M_L5 N k_5 I A n_5 r6 (x2 + 1)))))))))
def f_X8_allLast_M (N : Nat) (I : Nat → Int32) (A : Nat → Nat → Int32)  : Option (Int32) := (f_X8_allLast_M_L5 N (fun (x1 : Int32) (x2 : Int32) => some x1) I A N (-9) 0)
set_option maxHeartbeats 4000000 in
set_option maxRecDepth 100000 in
theorem c_X8_allLast_M (l : Launch) (dC : Nat → ClassId) (dI : Nat → Nat → Nat) (a : Nat → Nat) (cy : Nat → ClassId) (N : Nat) (I : Nat → Int32) (A : Nat → Nat → Int32) (T : Int64)  (res : Int32) (h : f_X8_allLast_M N I A  = some res) (sz : Nat) : Met l yX8_allLast wsX8_allLast rm_X8_allLast_M (g_Pre (dC, dI) cy [.ref (a 0)] (wM a cy I A T) sz) (g_Qi (dC, dI) cy res (wM a cy I A T) (wM a cy I A T) sz) 0 0 (va_A (wM a cy I A T) sz) := by
  unfold f_X8_allLast_M at h
  refine g_entry _ _ _ _ _ _ (cc := cX8_allLast) (maxL := 3) (ret := (some .int)) (by decide) rfl (Nat.le_of_ble_eq_true rfl) ?_
  intro p e s m args below meth c ls hx hb hml hown hts hr hlocks hA hK hP hD hS hl Q hQ
  have hl : lv_has ls 3 [(0, .ref (a 0))] := hl
  have hown : s.vm.findClass RX8 = some m.cls := hown
  refine lv_bipush (v := (-9)) hx hb dX8_allLast_0 (by decide) ?_
  refine lv_istore_n (lv' := [(1, .int (-9)), (0, .ref (a 0))]) hx hb dX8_allLast_2 rfl hl (by decide) rfl (fun ls hl => ?_)
  refine lv_iconst (v := 0) hx hb dX8_allLast_3 (by decide) ?_
  refine lv_istore_n (lv' := [(2, .int 0), (1, .int (-9)), (0, .ref (a 0))]) hx hb dX8_allLast_4 rfl hl (by decide) rfl (fun ls hl => ?_)
  have lp5 : ∀  (k_5 : Int32 → Int32 → Option (Int32)), (∀ (x1 : Int32) (x2 : Int32), k_5 x1 x2 = some res → g_At (dC, dI) p l e (headSpec wsX8_allLast rm_X8_allLast_M).room s m args below meth c Q (wM a cy I A T) sz 3 (wM a cy I A T) [(1, .int x1)] 46 []) → ∀ (n_5 : Nat) (x1 : Int32) (x2 : Int32), f_X8_allLast_M_L5 N k_5 I A n_5 x1 x2 = some res → g_At (dC, dI) p l e (headSpec wsX8_allLast rm_X8_allLast_M).room s m args below meth c Q (wM a cy I A T) sz 3 (wM a cy I A T) [(0, .ref (a 0)), (1, .int x1), (2, .int x2)] 5 [] := by
    intro  k_5 hk_5 n_5
    induction n_5 with
    | zero =>
      intro x1 x2 h
      exact absurd h (by rw [f_X8_allLast_M_L5]; exact fun q => by cases q)
    | succ n_5 ih5 =>
      intro x1 x2 h H locs hP hD hS ls hl
      rw [f_X8_allLast_M_L5] at h
      refine lv_iload_n hx hb dX8_allLast_5 rfl (lv_at hl 2 rfl) ?_
      refine lv_aload_n hx hb dX8_allLast_6 rfl (lv_at hl 0 rfl) ?_
      refine va_get (D := (dC, dI)) (ci := 8) (v := .ref (a 2)) (C := RX8) (T := TX8) (N := 19) hx hb hts inX8_allLast_X8 hown hK hP 0 (eM_0 a cy I A T) rfl 3 (by decide) (hts _ mX8_allLast_0) (fun _ h9 => h9) rfl dX8_allLast_7 ?_
      refine lv_iconst (v := 0) hx hb dX8_allLast_10 (by decide) ?_
      refine g_iald (f := (A 1)) (j := 0) hx hb hK hP 2 (eM_2 a cy I A T) (lit_in (by decide) : vp_in 0 23) rfl dX8_allLast_11 ?_
      refine lv_icmp_ge (tgt := 46) hx hb dX8_allLast_12 (by decide) (fun c1 => ?_) (fun c1 => ?_)
      · replace h := ite_t h c1
        exact hk_5 _ _ h _ _ hP hD hS _ (lv_sub hl [1] rfl)
      · replace h := ite_f h c1
        refine lv_iload_n hx hb dX8_allLast_15 rfl (lv_at hl 1 rfl) ?_
        refine lv_bipush (v := (-9)) hx hb dX8_allLast_16 (by decide) ?_
        refine lv_icmp_eq (tgt := 30) hx hb dX8_allLast_18 (by decide) (fun c2 => ?_) (fun c2 => ?_)
        · replace h := ite_t h c2
          refine lv_aload_n hx hb dX8_allLast_30 rfl (lv_at hl 0 rfl) ?_
          refine lv_iload_n hx hb dX8_allLast_31 rfl (lv_at hl 2 rfl) ?_
          obtain ⟨r3, hr3, h⟩ := bnd_some h
          refine g_callVi (As := [.int x2]) (rest := []) (ci := 8) (q0 := 0) hx hb hml hown hts (c_X8_lasts_M l dC dI a cy N I A T x2 r3 hr3) (cwV 1 hts gX8_allLast_X8_lasts rfl rfl rfl (by decide +kernel) ⟨Nat.le_of_ble_eq_true rfl, Nat.le_of_ble_eq_true rfl⟩) hK hP hD hS hA rfl (eM_0 a cy I A T) rfl rfl hl.1 rfl (Nat.le_of_ble_eq_true rfl) dX8_allLast_32 (fun H locs hP hD hS => ?_)
          refine lv_goto (tgt := 39) hx hb dX8_allLast_35 (by decide) ?_
          refine lv_istore_n (lv' := [(1, .int r3), (0, .ref (a 0)), (2, .int x2)]) hx hb dX8_allLast_39 rfl hl (by decide) rfl (fun ls hl => ?_)
          refine lv_iinc (v := (x2 + 1)) (lv' := [(2, .int (x2 + 1)), (1, .int r3), (0, .ref (a 0))]) hx hb dX8_allLast_40 hl (k := 2) rfl rfl (by decide) rfl (fun ls hl => ?_)
          refine lv_goto (tgt := 5) hx hb dX8_allLast_43 (by decide) ?_
          exact ih5 _ _ h _ _ hP hD hS _ (lv_sub hl [2, 1, 0] rfl)
        · replace h := ite_f h c2
          refine lv_aload_n hx hb dX8_allLast_21 rfl (lv_at hl 0 rfl) ?_
          refine lv_iload_n hx hb dX8_allLast_22 rfl (lv_at hl 2 rfl) ?_
          obtain ⟨r4, hr4, h⟩ := bnd_some h
          refine g_callVi (As := [.int x2]) (rest := []) (ci := 8) (q0 := 0) hx hb hml hown hts (c_X8_lasts_M l dC dI a cy N I A T x2 r4 hr4) (cwV 1 hts gX8_allLast_X8_lasts rfl rfl rfl (by decide +kernel) ⟨Nat.le_of_ble_eq_true rfl, Nat.le_of_ble_eq_true rfl⟩) hK hP hD hS hA rfl (eM_0 a cy I A T) rfl rfl hl.1 rfl (Nat.le_of_ble_eq_true rfl) dX8_allLast_23 (fun H locs hP hD hS => ?_)
          refine lv_iload_n hx hb dX8_allLast_26 rfl (lv_at hl 1 rfl) ?_
          refine lv_icmp_ge (tgt := 38) hx hb dX8_allLast_27 (by decide) (fun c5 => ?_) (fun c5 => ?_)
          · replace h := ite_t h c5
            refine lv_iload_n hx hb dX8_allLast_38 rfl (lv_at hl 1 rfl) ?_
            refine lv_istore_n (lv' := [(1, .int x1), (0, .ref (a 0)), (2, .int x2)]) hx hb dX8_allLast_39 rfl hl (by decide) rfl (fun ls hl => ?_)
            refine lv_iinc (v := (x2 + 1)) (lv' := [(2, .int (x2 + 1)), (1, .int x1), (0, .ref (a 0))]) hx hb dX8_allLast_40 hl (k := 2) rfl rfl (by decide) rfl (fun ls hl => ?_)
            refine lv_goto (tgt := 5) hx hb dX8_allLast_43 (by decide) ?_
            exact ih5 _ _ h _ _ hP hD hS _ (lv_sub hl [2, 1, 0] rfl)
          · replace h := ite_f h c5
            refine lv_aload_n hx hb dX8_allLast_30 rfl (lv_at hl 0 rfl) ?_
            refine lv_iload_n hx hb dX8_allLast_31 rfl (lv_at hl 2 rfl) ?_
            obtain ⟨r6, hr6, h⟩ := bnd_some h
            refine g_callVi (As := [.int x2]) (rest := []) (ci := 8) (q0 := 0) hx hb hml hown hts (c_X8_lasts_M l dC dI a cy N I A T x2 r6 hr6) (cwV 1 hts gX8_allLast_X8_lasts rfl rfl rfl (by decide +kernel) ⟨Nat.le_of_ble_eq_true rfl, Nat.le_of_ble_eq_true rfl⟩) hK hP hD hS hA rfl (eM_0 a cy I A T) rfl rfl hl.1 rfl (Nat.le_of_ble_eq_true rfl) dX8_allLast_32 (fun H locs hP hD hS => ?_)
            refine lv_goto (tgt := 39) hx hb dX8_allLast_35 (by decide) ?_
            refine lv_istore_n (lv' := [(1, .int r6), (0, .ref (a 0)), (2, .int x2)]) hx hb dX8_allLast_39 rfl hl (by decide) rfl (fun ls hl => ?_)
            refine lv_iinc (v := (x2 + 1)) (lv' := [(2, .int (x2 + 1)), (1, .int r6), (0, .ref (a 0))]) hx hb dX8_allLast_40 hl (k := 2) rfl rfl (by decide) rfl (fun ls hl => ?_)
            refine lv_goto (tgt := 5) hx hb dX8_allLast_43 (by decide) ?_
            exact ih5 _ _ h _ _ hP hD hS _ (lv_sub hl [2, 1, 0] rfl)
  refine lp5  _ ?_ N _ _ h _ _ hP hD hS _ (lv_sub hl [2, 1, 0] rfl)
  intro x1 x2 h H locs hP hD hS ls hl
  refine lv_iload_n hx hb dX8_allLast_46 rfl (lv_at hl 0 rfl) ?_
  obtain rfl := Option.some.inj h
  exact g_iret hx hb hr hK hP hD hS hQ dX8_allLast_47
theorem inX8_manyWarm_X8 : ∀ w ∈ u_ws RX8 TX8 19, w ∈ wsX8_manyWarm := by decide +kernel
theorem mX8_manyWarm_0 : Cond.fieldLink RX8 13 "WarmBottlesModel" "told" "[I" ∈ wsX8_manyWarm := List.mem_of_getElem? (i := 1) rfl
theorem mX8_manyWarm_1 : Cond.fieldLink RX8 19 "WarmBottlesModel" "s" "[I" ∈ wsX8_manyWarm := List.mem_of_getElem? (i := 2) rfl
def rm_X8_manyWarm_M : Room := { frames := 3, cells := 0, slots := 0, locals := 210 }
def f_X8_manyWarm_M_L4 (N : Nat) (k_4 : Int32 → Int32 → Option (Int32)) (I : (Nat → Int32)) (A : (Nat → Nat → Int32)) : Nat → Int32 → Int32 → Option (Int32)
  | 0, _, _ => none
  | n_4 + 1, x1, x2 => (if ((A 1) 0) ≤ x2 then (k_4 x1 x2) else (if (3 + x2) < 0 ∨ 15 ≤ ((3 + x2)).toNatClampNeg then none else (if ((A 3) ((3 + x2)).toNatClampNeg) ≤ 0 then (f_X8_manyWarm_M_L4 N k_4 I A n_4 (x1 + 0) (x2 + 1)) else (f_X8_manyWarm_M_L4 N k_4 I A n_4 (x1 + 1) (x2 + 1)))))
def f_X8_manyWarm_M (N : Nat) (I : Nat → Int32) (A : Nat → Nat → Int32)  : Option (Int32) := (f_X8_manyWarm_M_L4 N (fun (x1 : Int32) (x2 : Int32) => some x1) I A N 0 0)
set_option maxHeartbeats 4000000 in
set_option maxRecDepth 100000 in
theorem c_X8_manyWarm_M (l : Launch) (dC : Nat → ClassId) (dI : Nat → Nat → Nat) (a : Nat → Nat) (cy : Nat → ClassId) (N : Nat) (I : Nat → Int32) (A : Nat → Nat → Int32) (T : Int64)  (res : Int32) (h : f_X8_manyWarm_M N I A  = some res) (sz : Nat) : Met l yX8_manyWarm wsX8_manyWarm rm_X8_manyWarm_M (g_Pre (dC, dI) cy [.ref (a 0)] (wM a cy I A T) sz) (g_Qi (dC, dI) cy res (wM a cy I A T) (wM a cy I A T) sz) 0 0 (va_A (wM a cy I A T) sz) := by
  unfold f_X8_manyWarm_M at h
  refine g_entry _ _ _ _ _ _ (cc := cX8_manyWarm) (maxL := 3) (ret := (some .int)) (by decide) rfl (Nat.le_of_ble_eq_true rfl) ?_
  intro p e s m args below meth c ls hx hb hml hown hts hr hlocks hA hK hP hD hS hl Q hQ
  have hl : lv_has ls 3 [(0, .ref (a 0))] := hl
  have hown : s.vm.findClass RX8 = some m.cls := hown
  refine lv_iconst (v := 0) hx hb dX8_manyWarm_0 (by decide) ?_
  refine lv_istore_n (lv' := [(1, .int 0), (0, .ref (a 0))]) hx hb dX8_manyWarm_1 rfl hl (by decide) rfl (fun ls hl => ?_)
  refine lv_iconst (v := 0) hx hb dX8_manyWarm_2 (by decide) ?_
  refine lv_istore_n (lv' := [(2, .int 0), (1, .int 0), (0, .ref (a 0))]) hx hb dX8_manyWarm_3 rfl hl (by decide) rfl (fun ls hl => ?_)
  have lp4 : ∀  (k_4 : Int32 → Int32 → Option (Int32)), (∀ (x1 : Int32) (x2 : Int32), k_4 x1 x2 = some res → g_At (dC, dI) p l e (headSpec wsX8_manyWarm rm_X8_manyWarm_M).room s m args below meth c Q (wM a cy I A T) sz 3 (wM a cy I A T) [(1, .int x1)] 39 []) → ∀ (n_4 : Nat) (x1 : Int32) (x2 : Int32), f_X8_manyWarm_M_L4 N k_4 I A n_4 x1 x2 = some res → g_At (dC, dI) p l e (headSpec wsX8_manyWarm rm_X8_manyWarm_M).room s m args below meth c Q (wM a cy I A T) sz 3 (wM a cy I A T) [(0, .ref (a 0)), (1, .int x1), (2, .int x2)] 4 [] := by
    intro  k_4 hk_4 n_4
    induction n_4 with
    | zero =>
      intro x1 x2 h
      exact absurd h (by rw [f_X8_manyWarm_M_L4]; exact fun q => by cases q)
    | succ n_4 ih4 =>
      intro x1 x2 h H locs hP hD hS ls hl
      rw [f_X8_manyWarm_M_L4] at h
      refine lv_iload_n hx hb dX8_manyWarm_4 rfl (lv_at hl 2 rfl) ?_
      refine lv_aload_n hx hb dX8_manyWarm_5 rfl (lv_at hl 0 rfl) ?_
      refine va_get (D := (dC, dI)) (ci := 8) (v := .ref (a 2)) (C := RX8) (T := TX8) (N := 19) hx hb hts inX8_manyWarm_X8 hown hK hP 0 (eM_0 a cy I A T) rfl 3 (by decide) (hts _ mX8_manyWarm_0) (fun _ h9 => h9) rfl dX8_manyWarm_6 ?_
      refine lv_iconst (v := 0) hx hb dX8_manyWarm_9 (by decide) ?_
      refine g_iald (f := (A 1)) (j := 0) hx hb hK hP 2 (eM_2 a cy I A T) (lit_in (by decide) : vp_in 0 23) rfl dX8_manyWarm_10 ?_
      refine lv_icmp_ge (tgt := 39) hx hb dX8_manyWarm_11 (by decide) (fun c1 => ?_) (fun c1 => ?_)
      · replace h := ite_t h c1
        exact hk_4 _ _ h _ _ hP hD hS _ (lv_sub hl [1] rfl)
      · replace h := ite_f h c1
        refine lv_iload_n hx hb dX8_manyWarm_14 rfl (lv_at hl 1 rfl) ?_
        refine lv_aload_n hx hb dX8_manyWarm_15 rfl (lv_at hl 0 rfl) ?_
        refine va_get (D := (dC, dI)) (ci := 8) (v := .ref (a 4)) (C := RX8) (T := TX8) (N := 19) hx hb hts inX8_manyWarm_X8 hown hK hP 0 (eM_0 a cy I A T) rfl 5 (by decide) (hts _ mX8_manyWarm_1) (fun _ h9 => h9) rfl dX8_manyWarm_16 ?_
        refine lv_iconst (v := 3) hx hb dX8_manyWarm_19 (by decide) ?_
        refine lv_iload_n hx hb dX8_manyWarm_20 rfl (lv_at hl 2 rfl) ?_
        refine lv_iadd hx hb dX8_manyWarm_21 ?_
        obtain ⟨i2, h⟩ := inb_some h
        refine g_iald (f := (A 3)) (j := ((3 + x2)).toNatClampNeg) hx hb hK hP 4 (eM_4 a cy I A T) i2 rfl dX8_manyWarm_22 ?_
        refine lv_if_le (tgt := 30) hx hb dX8_manyWarm_23 (by decide) (fun c3 => ?_) (fun c3 => ?_)
        · replace h := ite_t h c3
          refine lv_iconst (v := 0) hx hb dX8_manyWarm_30 (by decide) ?_
          refine lv_iadd hx hb dX8_manyWarm_31 ?_
          refine lv_istore_n (lv' := [(1, .int (x1 + 0)), (0, .ref (a 0)), (2, .int x2)]) hx hb dX8_manyWarm_32 rfl hl (by decide) rfl (fun ls hl => ?_)
          refine lv_iinc (v := (x2 + 1)) (lv' := [(2, .int (x2 + 1)), (1, .int (x1 + 0)), (0, .ref (a 0))]) hx hb dX8_manyWarm_33 hl (k := 2) rfl rfl (by decide) rfl (fun ls hl => ?_)
          refine lv_goto (tgt := 4) hx hb dX8_manyWarm_36 (by decide) ?_
          exact ih4 _ _ h _ _ hP hD hS _ (lv_sub hl [2, 1, 0] rfl)
        · replace h := ite_f h c3
          refine lv_iconst (v := 1) hx hb dX8_manyWarm_26 (by decide) ?_
          refine lv_goto (tgt := 31) hx hb dX8_manyWarm_27 (by decide) ?_
          refine lv_iadd hx hb dX8_manyWarm_31 ?_
          refine lv_istore_n (lv' := [(1, .int (x1 + 1)), (0, .ref (a 0)), (2, .int x2)]) hx hb dX8_manyWarm_32 rfl hl (by decide) rfl (fun ls hl => ?_)
          refine lv_iinc (v := (x2 + 1)) (lv' := [(2, .int (x2 + 1)), (1, .int (x1 + 1)), (0, .ref (a 0))]) hx hb dX8_manyWarm_33 hl (k := 2) rfl rfl (by decide) rfl (fun ls hl => ?_)
          refine lv_goto (tgt := 4) hx hb dX8_manyWarm_36 (by decide) ?_
          exact ih4 _ _ h _ _ hP hD hS _ (lv_sub hl [2, 1, 0] rfl)
  refine lp4  _ ?_ N _ _ h _ _ hP hD hS _ (lv_sub hl [2, 1, 0] rfl)
  intro x1 x2 h H locs hP hD hS ls hl
  refine lv_iload_n hx hb dX8_manyWarm_39 rfl (lv_at hl 0 rfl) ?_
  obtain rfl := Option.some.inj h
  exact g_iret hx hb hr hK hP hD hS hQ dX8_manyWarm_40
theorem inX8_now_X8 : ∀ w ∈ u_ws RX8 TX8 19, w ∈ wsX8_now := by decide +kernel
theorem mX8_now_0 : Cond.fieldLink RX8 19 "WarmBottlesModel" "s" "[I" ∈ wsX8_now := List.mem_of_getElem? (i := 1) rfl
theorem mX8_now_1 : Cond.fieldLink RX8 92 "WarmBottlesModel" "known" "I" ∈ wsX8_now := List.mem_of_getElem? (i := 2) rfl
def rm_X8_now_M : Room := { frames := 9, cells := 0, slots := 0, locals := 390 }
def f_X8_now_M (N : Nat) (I : Nat → Int32) (A : Nat → Nat → Int32) (p1 : Int32) : Option (Int32) := (if p1 = 0 then some ((A 3) 0) else (if p1 = 1 then some ((A 3) 1) else (if p1 = 2 then some ((A 3) 2) else (if p1 = 3 then (Option.bind (f_X8_allLast_M N I A) (fun r5 => some r5)) else (if p1 = 4 then (Option.bind (f_X8_manyWarm_M N I A) (fun r7 => some r7)) else (if p1 = 5 then some (I 1) else some (-1)))))))
set_option maxHeartbeats 4000000 in
set_option maxRecDepth 100000 in
theorem c_X8_now_M (l : Launch) (dC : Nat → ClassId) (dI : Nat → Nat → Nat) (a : Nat → Nat) (cy : Nat → ClassId) (N : Nat) (I : Nat → Int32) (A : Nat → Nat → Int32) (T : Int64) (p1 : Int32) (res : Int32) (h : f_X8_now_M N I A p1 = some res) (sz : Nat) : Met l yX8_now wsX8_now rm_X8_now_M (g_Pre (dC, dI) cy [.ref (a 0), .int p1] (wM a cy I A T) sz) (g_Qi (dC, dI) cy res (wM a cy I A T) (wM a cy I A T) sz) 0 0 (va_A (wM a cy I A T) sz) := by
  unfold f_X8_now_M at h
  refine g_entry _ _ _ _ _ _ (cc := cX8_now) (maxL := 2) (ret := (some .int)) (by decide) rfl (Nat.le_of_ble_eq_true rfl) ?_
  intro p e s m args below meth c ls hx hb hml hown hts hr hlocks hA hK hP hD hS hl Q hQ
  have hl : lv_has ls 2 [(0, .ref (a 0)), (1, .int p1)] := hl
  have hown : s.vm.findClass RX8 = some m.cls := hown
  refine lv_iload_n hx hb dX8_now_0 rfl (lv_at hl 1 rfl) ?_
  rcases Decidable.em (p1 = 0) with c1 | c1
  · replace h := ite_t h c1
    refine lv_tableIn (off := 39) (tgt := 40) hx hb dX8_now_1 (by rw [c1]; decide) (by rw [c1]; decide) (by rw [c1]; rfl) (by decide) ?_
    refine lv_aload_n hx hb dX8_now_40 rfl (lv_at hl 0 rfl) ?_
    refine va_get (D := (dC, dI)) (ci := 8) (v := .ref (a 4)) (C := RX8) (T := TX8) (N := 19) hx hb hts inX8_now_X8 hown hK hP 0 (eM_0 a cy I A T) rfl 5 (by decide) (hts _ mX8_now_0) (fun _ h9 => h9) rfl dX8_now_41 ?_
    refine lv_iconst (v := 0) hx hb dX8_now_44 (by decide) ?_
    refine g_iald (f := (A 3)) (j := 0) hx hb hK hP 4 (eM_4 a cy I A T) (lit_in (by decide) : vp_in 0 15) rfl dX8_now_45 ?_
    obtain rfl := Option.some.inj h
    exact g_iret hx hb hr hK hP hD hS hQ dX8_now_46
  · replace h := ite_f h c1
    rcases Decidable.em (p1 = 1) with c2 | c2
    · replace h := ite_t h c2
      refine lv_tableIn (off := 46) (tgt := 47) hx hb dX8_now_1 (by rw [c2]; decide) (by rw [c2]; decide) (by rw [c2]; rfl) (by decide) ?_
      refine lv_aload_n hx hb dX8_now_47 rfl (lv_at hl 0 rfl) ?_
      refine va_get (D := (dC, dI)) (ci := 8) (v := .ref (a 4)) (C := RX8) (T := TX8) (N := 19) hx hb hts inX8_now_X8 hown hK hP 0 (eM_0 a cy I A T) rfl 5 (by decide) (hts _ mX8_now_0) (fun _ h9 => h9) rfl dX8_now_48 ?_
      refine lv_iconst (v := 1) hx hb dX8_now_51 (by decide) ?_
      refine g_iald (f := (A 3)) (j := 1) hx hb hK hP 4 (eM_4 a cy I A T) (lit_in (by decide) : vp_in 1 15) rfl dX8_now_52 ?_
      obtain rfl := Option.some.inj h
      exact g_iret hx hb hr hK hP hD hS hQ dX8_now_53
    · replace h := ite_f h c2
      rcases Decidable.em (p1 = 2) with c3 | c3
      · replace h := ite_t h c3
        refine lv_tableIn (off := 53) (tgt := 54) hx hb dX8_now_1 (by rw [c3]; decide) (by rw [c3]; decide) (by rw [c3]; rfl) (by decide) ?_
        refine lv_aload_n hx hb dX8_now_54 rfl (lv_at hl 0 rfl) ?_
        refine va_get (D := (dC, dI)) (ci := 8) (v := .ref (a 4)) (C := RX8) (T := TX8) (N := 19) hx hb hts inX8_now_X8 hown hK hP 0 (eM_0 a cy I A T) rfl 5 (by decide) (hts _ mX8_now_0) (fun _ h9 => h9) rfl dX8_now_55 ?_
        refine lv_iconst (v := 2) hx hb dX8_now_58 (by decide) ?_
        refine g_iald (f := (A 3)) (j := 2) hx hb hK hP 4 (eM_4 a cy I A T) (lit_in (by decide) : vp_in 2 15) rfl dX8_now_59 ?_
        obtain rfl := Option.some.inj h
        exact g_iret hx hb hr hK hP hD hS hQ dX8_now_60
      · replace h := ite_f h c3
        rcases Decidable.em (p1 = 3) with c4 | c4
        · replace h := ite_t h c4
          refine lv_tableIn (off := 60) (tgt := 61) hx hb dX8_now_1 (by rw [c4]; decide) (by rw [c4]; decide) (by rw [c4]; rfl) (by decide) ?_
          refine lv_aload_n hx hb dX8_now_61 rfl (lv_at hl 0 rfl) ?_
          obtain ⟨r5, hr5, h⟩ := bnd_some h
          refine g_callVi (As := []) (rest := []) (ci := 8) (q0 := 0) hx hb hml hown hts (c_X8_allLast_M l dC dI a cy N I A T r5 hr5) (cwV 0 hts gX8_now_X8_allLast rfl rfl rfl (by decide +kernel) ⟨Nat.le_of_ble_eq_true rfl, Nat.le_of_ble_eq_true rfl⟩) hK hP hD hS hA rfl (eM_0 a cy I A T) rfl rfl hl.1 rfl (Nat.le_of_ble_eq_true rfl) dX8_now_62 (fun H locs hP hD hS => ?_)
          obtain rfl := Option.some.inj h
          exact g_iret hx hb hr hK hP hD hS hQ dX8_now_65
        · replace h := ite_f h c4
          rcases Decidable.em (p1 = 4) with c6 | c6
          · replace h := ite_t h c6
            refine lv_tableIn (off := 65) (tgt := 66) hx hb dX8_now_1 (by rw [c6]; decide) (by rw [c6]; decide) (by rw [c6]; rfl) (by decide) ?_
            refine lv_aload_n hx hb dX8_now_66 rfl (lv_at hl 0 rfl) ?_
            obtain ⟨r7, hr7, h⟩ := bnd_some h
            refine g_callVi (As := []) (rest := []) (ci := 8) (q0 := 0) hx hb hml hown hts (c_X8_manyWarm_M l dC dI a cy N I A T r7 hr7) (cwV 0 hts gX8_now_X8_manyWarm rfl rfl rfl (by decide +kernel) ⟨Nat.le_of_ble_eq_true rfl, Nat.le_of_ble_eq_true rfl⟩) hK hP hD hS hA rfl (eM_0 a cy I A T) rfl rfl hl.1 rfl (Nat.le_of_ble_eq_true rfl) dX8_now_67 (fun H locs hP hD hS => ?_)
            obtain rfl := Option.some.inj h
            exact g_iret hx hb hr hK hP hD hS hQ dX8_now_70
          · replace h := ite_f h c6
            rcases Decidable.em (p1 = 5) with c8 | c8
            · replace h := ite_t h c8
              refine lv_tableIn (off := 70) (tgt := 71) hx hb dX8_now_1 (by rw [c8]; decide) (by rw [c8]; decide) (by rw [c8]; rfl) (by decide) ?_
              refine lv_aload_n hx hb dX8_now_71 rfl (lv_at hl 0 rfl) ?_
              refine va_get (D := (dC, dI)) (ci := 8) (v := .int (I 1)) (C := RX8) (T := TX8) (N := 19) hx hb hts inX8_now_X8 hown hK hP 0 (eM_0 a cy I A T) rfl 7 (by decide) (hts _ mX8_now_1) (fun _ h9 => h9) rfl dX8_now_72 ?_
              obtain rfl := Option.some.inj h
              exact g_iret hx hb hr hK hP hD hS hQ dX8_now_75
            · replace h := ite_f h c8
              refine lv_tableOut (tgt := 76) hx hb dX8_now_1 (by have q0 := lv_neT (a := 0) c1 rfl; have q1 := lv_neT (a := 1) c2 rfl; have q2 := lv_neT (a := 2) c3 rfl; have q3 := lv_neT (a := 3) c4 rfl; have q4 := lv_neT (a := 4) c6 rfl; have q5 := lv_neT (a := 5) c8 rfl; omega) (by decide) ?_
              refine lv_iconst (v := (-1)) hx hb dX8_now_76 (by decide) ?_
              obtain rfl := Option.some.inj h
              exact g_iret hx hb hr hK hP hD hS hQ dX8_now_77
theorem inX8_keeps_X8 : ∀ w ∈ u_ws RX8 TX8 19, w ∈ wsX8_keeps := by decide +kernel
theorem mX8_keeps_0 : Cond.fieldLink RX8 92 "WarmBottlesModel" "known" "I" ∈ wsX8_keeps := List.mem_of_getElem? (i := 1) rfl
theorem mX8_keeps_1 : Cond.fieldLink RX8 22 "WarmBottlesModel" "past" "[I" ∈ wsX8_keeps := List.mem_of_getElem? (i := 2) rfl
theorem mX8_keeps_2 : Cond.fieldLink RX8 19 "WarmBottlesModel" "s" "[I" ∈ wsX8_keeps := List.mem_of_getElem? (i := 3) rfl
def rm_X8_keeps_M : Room := { frames := 3, cells := 0, slots := 0, locals := 210 }
def f_X8_keeps_M_L51 (N : Nat) (k_51 : Int32 → (Nat → Nat → Int32) → Option ((Nat → Int32) × (Nat → Nat → Int32))) (I : (Nat → Int32)) : Nat → Int32 → (Nat → Nat → Int32) → Option ((Nat → Int32) × (Nat → Nat → Int32))
  | 0, _, _ => none
  | n_51 + 1, x1, A_51 => (if 15 ≤ x1 then (k_51 x1 A_51) else (if x1 < 0 ∨ 15 ≤ x1.toNatClampNeg then none else (if ((15 * (I 1)) + x1) < 0 ∨ 150 ≤ (((15 * (I 1)) + x1)).toNatClampNeg then none else (f_X8_keeps_M_L51 N k_51 I n_51 (x1 + 1) (va_up A_51 4 (upd (A_51 4) (((15 * (I 1)) + x1)).toNatClampNeg ((A_51 3) x1.toNatClampNeg)))))))
def f_X8_keeps_M_L11 (N : Nat) (k_11 : Int32 → (Nat → Nat → Int32) → Option ((Nat → Int32) × (Nat → Nat → Int32))) (I : (Nat → Int32)) : Nat → Int32 → (Nat → Nat → Int32) → Option ((Nat → Int32) × (Nat → Nat → Int32))
  | 0, _, _ => none
  | n_11 + 1, x1, A_11 => (if 135 ≤ x1 then (k_11 x1 A_11) else (if (x1 + 15) < 0 ∨ 150 ≤ ((x1 + 15)).toNatClampNeg then none else (if x1 < 0 ∨ 150 ≤ x1.toNatClampNeg then none else (f_X8_keeps_M_L11 N k_11 I n_11 (x1 + 1) (va_up A_11 4 (upd (A_11 4) x1.toNatClampNeg ((A_11 4) ((x1 + 15)).toNatClampNeg)))))))
def f_X8_keeps_M (N : Nat) (I : Nat → Int32) (A : Nat → Nat → Int32)  : Option ((Nat → Int32) × (Nat → Nat → Int32)) := (if (I 1) = 10 then (f_X8_keeps_M_L11 N (fun (x1 : Int32) (A_11 : (Nat → Nat → Int32)) => (f_X8_keeps_M_L51 N (fun (x1 : Int32) (A_51 : (Nat → Nat → Int32)) => some ((upd (upd I 1 ((I 1) - 1)) 1 (((I 1) - 1) + 1)), A_51)) (upd I 1 ((I 1) - 1)) N 0 A_11)) I N 0 A) else (f_X8_keeps_M_L51 N (fun (x1 : Int32) (A_51 : (Nat → Nat → Int32)) => some ((upd I 1 ((I 1) + 1)), A_51)) I N 0 A))
set_option maxHeartbeats 4000000 in
set_option maxRecDepth 100000 in
theorem c_X8_keeps_M (l : Launch) (dC : Nat → ClassId) (dI : Nat → Nat → Nat) (a : Nat → Nat) (cy : Nat → ClassId) (N : Nat) (I : Nat → Int32) (A : Nat → Nat → Int32) (T : Int64)  (res : (Nat → Int32) × (Nat → Nat → Int32)) (h : f_X8_keeps_M N I A  = some res) (sz : Nat) : Met l yX8_keeps wsX8_keeps rm_X8_keeps_M (g_Pre (dC, dI) cy [.ref (a 0)] (wM a cy I A T) sz) (g_Qv (dC, dI) cy (wM a cy I A T) (wM a cy res.1 res.2 T) sz) 0 0 (va_A (wM a cy I A T) sz) := by
  unfold f_X8_keeps_M at h
  refine g_entry _ _ _ _ _ _ (cc := cX8_keeps) (maxL := 2) (ret := none) (by decide) rfl (Nat.le_of_ble_eq_true rfl) ?_
  intro p e s m args below meth c ls hx hb hml hown hts hr hlocks hA hK hP hD hS hl Q hQ
  have hl : lv_has ls 2 [(0, .ref (a 0))] := hl
  have hown : s.vm.findClass RX8 = some m.cls := hown
  refine lv_aload_n hx hb dX8_keeps_0 rfl (lv_at hl 0 rfl) ?_
  refine va_get (D := (dC, dI)) (ci := 8) (v := .int (I 1)) (C := RX8) (T := TX8) (N := 19) hx hb hts inX8_keeps_X8 hown hK hP 0 (eM_0 a cy I A T) rfl 7 (by decide) (hts _ mX8_keeps_0) (fun _ h9 => h9) rfl dX8_keeps_1 ?_
  refine lv_bipush (v := 10) hx hb dX8_keeps_4 (by decide) ?_
  refine lv_icmp_ne (tgt := 49) hx hb dX8_keeps_6 (by decide) (fun c1 => ?_) (fun c1 => ?_)
  · replace h := ite_f h c1
    refine lv_iconst (v := 0) hx hb dX8_keeps_49 (by decide) ?_
    refine lv_istore_n (lv' := [(1, .int 0), (0, .ref (a 0))]) hx hb dX8_keeps_50 rfl hl (by decide) rfl (fun ls hl => ?_)
    have lp51 : ∀  (k_51 : Int32 → (Nat → Nat → Int32) → Option ((Nat → Int32) × (Nat → Nat → Int32))), (∀ (x1 : Int32) (A_51 : (Nat → Nat → Int32)), k_51 x1 A_51 = some res → g_At (dC, dI) p l e (headSpec wsX8_keeps rm_X8_keeps_M).room s m args below meth c Q (wM a cy I A T) sz 2 (wM a cy I A_51 T) [(0, .ref (a 0))] 83 []) → ∀ (n_51 : Nat) (x1 : Int32) (A_51 : (Nat → Nat → Int32)), f_X8_keeps_M_L51 N k_51 I n_51 x1 A_51 = some res → g_At (dC, dI) p l e (headSpec wsX8_keeps rm_X8_keeps_M).room s m args below meth c Q (wM a cy I A T) sz 2 (wM a cy I A_51 T) [(0, .ref (a 0)), (1, .int x1)] 51 [] := by
      intro  k_51 hk_51 n_51
      induction n_51 with
      | zero =>
        intro x1 A_51 h
        exact absurd h (by rw [f_X8_keeps_M_L51]; exact fun q => by cases q)
      | succ n_51 ih51 =>
        intro x1 A_51 h H locs hP hD hS ls hl
        rw [f_X8_keeps_M_L51] at h
        refine lv_iload_n hx hb dX8_keeps_51 rfl (lv_at hl 1 rfl) ?_
        refine lv_bipush (v := 15) hx hb dX8_keeps_52 (by decide) ?_
        refine lv_icmp_ge (tgt := 83) hx hb dX8_keeps_54 (by decide) (fun c2 => ?_) (fun c2 => ?_)
        · replace h := ite_t h c2
          exact hk_51 _ _ h _ _ hP hD hS _ (lv_sub hl [0] rfl)
        · replace h := ite_f h c2
          refine lv_aload_n hx hb dX8_keeps_57 rfl (lv_at hl 0 rfl) ?_
          refine va_get (D := (dC, dI)) (ci := 8) (v := .ref (a 5)) (C := RX8) (T := TX8) (N := 19) hx hb hts inX8_keeps_X8 hown hK hP 0 (eM_0 a cy I A_51 T) rfl 6 (by decide) (hts _ mX8_keeps_1) (fun _ h9 => h9) rfl dX8_keeps_58 ?_
          refine lv_bipush (v := 15) hx hb dX8_keeps_61 (by decide) ?_
          refine lv_aload_n hx hb dX8_keeps_63 rfl (lv_at hl 0 rfl) ?_
          refine va_get (D := (dC, dI)) (ci := 8) (v := .int (I 1)) (C := RX8) (T := TX8) (N := 19) hx hb hts inX8_keeps_X8 hown hK hP 0 (eM_0 a cy I A_51 T) rfl 7 (by decide) (hts _ mX8_keeps_0) (fun _ h9 => h9) rfl dX8_keeps_64 ?_
          refine lv_imul hx hb dX8_keeps_67 ?_
          refine lv_iload_n hx hb dX8_keeps_68 rfl (lv_at hl 1 rfl) ?_
          refine lv_iadd hx hb dX8_keeps_69 ?_
          refine lv_aload_n hx hb dX8_keeps_70 rfl (lv_at hl 0 rfl) ?_
          refine va_get (D := (dC, dI)) (ci := 8) (v := .ref (a 4)) (C := RX8) (T := TX8) (N := 19) hx hb hts inX8_keeps_X8 hown hK hP 0 (eM_0 a cy I A_51 T) rfl 5 (by decide) (hts _ mX8_keeps_2) (fun _ h9 => h9) rfl dX8_keeps_71 ?_
          refine lv_iload_n hx hb dX8_keeps_74 rfl (lv_at hl 1 rfl) ?_
          obtain ⟨i3, h⟩ := inb_some h
          refine g_iald (f := (A_51 3)) (j := x1.toNatClampNeg) hx hb hK hP 4 (eM_4 a cy I A_51 T) i3 rfl dX8_keeps_75 ?_
          obtain ⟨i4, h⟩ := inb_some h
          refine g_iast (f := (A_51 4)) (j := (((15 * (I 1)) + x1)).toNatClampNeg) hx hb hK hP hD hS 5 (eM_5 a cy I A_51 T) i4 rfl dX8_keeps_76 (sM_5 a cy I A_51 T (upd (A_51 4) (((15 * (I 1)) + x1)).toNatClampNeg ((A_51 3) x1.toNatClampNeg))) (fun H locs hP hD hS => ?_)
          refine lv_iinc (v := (x1 + 1)) (lv' := [(1, .int (x1 + 1)), (0, .ref (a 0))]) hx hb dX8_keeps_77 hl (k := 1) rfl rfl (by decide) rfl (fun ls hl => ?_)
          refine lv_goto (tgt := 51) hx hb dX8_keeps_80 (by decide) ?_
          exact ih51 _ _ h _ _ hP hD hS _ (lv_sub hl [1, 0] rfl)
    refine lp51  _ ?_ N _ _ h _ _ hP hD hS _ (lv_sub hl [1, 0] rfl)
    intro x1 A_51 h H locs hP hD hS ls hl
    refine lv_aload_n hx hb dX8_keeps_83 rfl (lv_at hl 0 rfl) ?_
    refine lv_dup hx hb dX8_keeps_84 rfl ?_
    refine va_get (D := (dC, dI)) (ci := 8) (v := .int (I 1)) (C := RX8) (T := TX8) (N := 19) hx hb hts inX8_keeps_X8 hown hK hP 0 (eM_0 a cy I A_51 T) rfl 7 (by decide) (hts _ mX8_keeps_0) (fun _ h9 => h9) rfl dX8_keeps_85 ?_
    refine lv_iconst (v := 1) hx hb dX8_keeps_88 (by decide) ?_
    refine lv_iadd hx hb dX8_keeps_89 ?_
    refine g_put (D := (dC, dI)) (ci := 8) (v := .int ((I 1) + 1)) (ty := .int) (C := RX8) (T := TX8) (N := 19) hx hb hts inX8_keeps_X8 tyX8 tyX8_ok nmX8 hown hK hP hD hS 0 (eM_0 a cy I A_51 T) rfl 7 (by decide) (hts _ mX8_keeps_0) (fun _ h9 => h9) rfl (by decide +kernel) rfl rfl (Nat.le_of_ble_eq_true rfl) dX8_keeps_90 (pM_0_7 a cy I A_51 T ((I 1) + 1)) (fun H locs hP hD hS => ?_)
    obtain rfl := Option.some.inj h
    exact g_vret hx hb hr hK hP hD hS hQ dX8_keeps_93
  · replace h := ite_t h c1
    refine lv_iconst (v := 0) hx hb dX8_keeps_9 (by decide) ?_
    refine lv_istore_n (lv' := [(1, .int 0), (0, .ref (a 0))]) hx hb dX8_keeps_10 rfl hl (by decide) rfl (fun ls hl => ?_)
    have lp11 : ∀  (k_11 : Int32 → (Nat → Nat → Int32) → Option ((Nat → Int32) × (Nat → Nat → Int32))), (∀ (x1 : Int32) (A_11 : (Nat → Nat → Int32)), k_11 x1 A_11 = some res → g_At (dC, dI) p l e (headSpec wsX8_keeps rm_X8_keeps_M).room s m args below meth c Q (wM a cy I A T) sz 2 (wM a cy I A_11 T) [(0, .ref (a 0))] 39 []) → ∀ (n_11 : Nat) (x1 : Int32) (A_11 : (Nat → Nat → Int32)), f_X8_keeps_M_L11 N k_11 I n_11 x1 A_11 = some res → g_At (dC, dI) p l e (headSpec wsX8_keeps rm_X8_keeps_M).room s m args below meth c Q (wM a cy I A T) sz 2 (wM a cy I A_11 T) [(0, .ref (a 0)), (1, .int x1)] 11 [] := by
      intro  k_11 hk_11 n_11
      induction n_11 with
      | zero =>
        intro x1 A_11 h
        exact absurd h (by rw [f_X8_keeps_M_L11]; exact fun q => by cases q)
      | succ n_11 ih11 =>
        intro x1 A_11 h H locs hP hD hS ls hl
        rw [f_X8_keeps_M_L11] at h
        refine lv_iload_n hx hb dX8_keeps_11 rfl (lv_at hl 1 rfl) ?_
        refine lv_sipush (v := 135) hx hb dX8_keeps_12 (by decide) ?_
        refine lv_icmp_ge (tgt := 39) hx hb dX8_keeps_15 (by decide) (fun c8 => ?_) (fun c8 => ?_)
        · replace h := ite_t h c8
          exact hk_11 _ _ h _ _ hP hD hS _ (lv_sub hl [0] rfl)
        · replace h := ite_f h c8
          refine lv_aload_n hx hb dX8_keeps_18 rfl (lv_at hl 0 rfl) ?_
          refine va_get (D := (dC, dI)) (ci := 8) (v := .ref (a 5)) (C := RX8) (T := TX8) (N := 19) hx hb hts inX8_keeps_X8 hown hK hP 0 (eM_0 a cy I A_11 T) rfl 6 (by decide) (hts _ mX8_keeps_1) (fun _ h9 => h9) rfl dX8_keeps_19 ?_
          refine lv_iload_n hx hb dX8_keeps_22 rfl (lv_at hl 1 rfl) ?_
          refine lv_aload_n hx hb dX8_keeps_23 rfl (lv_at hl 0 rfl) ?_
          refine va_get (D := (dC, dI)) (ci := 8) (v := .ref (a 5)) (C := RX8) (T := TX8) (N := 19) hx hb hts inX8_keeps_X8 hown hK hP 0 (eM_0 a cy I A_11 T) rfl 6 (by decide) (hts _ mX8_keeps_1) (fun _ h9 => h9) rfl dX8_keeps_24 ?_
          refine lv_iload_n hx hb dX8_keeps_27 rfl (lv_at hl 1 rfl) ?_
          refine lv_bipush (v := 15) hx hb dX8_keeps_28 (by decide) ?_
          refine lv_iadd hx hb dX8_keeps_30 ?_
          obtain ⟨i9, h⟩ := inb_some h
          refine g_iald (f := (A_11 4)) (j := ((x1 + 15)).toNatClampNeg) hx hb hK hP 5 (eM_5 a cy I A_11 T) i9 rfl dX8_keeps_31 ?_
          obtain ⟨i10, h⟩ := inb_some h
          refine g_iast (f := (A_11 4)) (j := x1.toNatClampNeg) hx hb hK hP hD hS 5 (eM_5 a cy I A_11 T) i10 rfl dX8_keeps_32 (sM_5 a cy I A_11 T (upd (A_11 4) x1.toNatClampNeg ((A_11 4) ((x1 + 15)).toNatClampNeg))) (fun H locs hP hD hS => ?_)
          refine lv_iinc (v := (x1 + 1)) (lv' := [(1, .int (x1 + 1)), (0, .ref (a 0))]) hx hb dX8_keeps_33 hl (k := 1) rfl rfl (by decide) rfl (fun ls hl => ?_)
          refine lv_goto (tgt := 11) hx hb dX8_keeps_36 (by decide) ?_
          exact ih11 _ _ h _ _ hP hD hS _ (lv_sub hl [1, 0] rfl)
    refine lp11  _ ?_ N _ _ h _ _ hP hD hS _ (lv_sub hl [1, 0] rfl)
    intro x1 A_11 h H locs hP hD hS ls hl
    refine lv_aload_n hx hb dX8_keeps_39 rfl (lv_at hl 0 rfl) ?_
    refine lv_dup hx hb dX8_keeps_40 rfl ?_
    refine va_get (D := (dC, dI)) (ci := 8) (v := .int (I 1)) (C := RX8) (T := TX8) (N := 19) hx hb hts inX8_keeps_X8 hown hK hP 0 (eM_0 a cy I A_11 T) rfl 7 (by decide) (hts _ mX8_keeps_0) (fun _ h9 => h9) rfl dX8_keeps_41 ?_
    refine lv_iconst (v := 1) hx hb dX8_keeps_44 (by decide) ?_
    refine lv_isub hx hb dX8_keeps_45 ?_
    refine g_put (D := (dC, dI)) (ci := 8) (v := .int ((I 1) - 1)) (ty := .int) (C := RX8) (T := TX8) (N := 19) hx hb hts inX8_keeps_X8 tyX8 tyX8_ok nmX8 hown hK hP hD hS 0 (eM_0 a cy I A_11 T) rfl 7 (by decide) (hts _ mX8_keeps_0) (fun _ h9 => h9) rfl (by decide +kernel) rfl rfl (Nat.le_of_ble_eq_true rfl) dX8_keeps_46 (pM_0_7 a cy I A_11 T ((I 1) - 1)) (fun H locs hP hD hS => ?_)
    refine lv_iconst (v := 0) hx hb dX8_keeps_49 (by decide) ?_
    refine lv_istore_n (lv' := [(1, .int 0), (0, .ref (a 0))]) hx hb dX8_keeps_50 rfl hl (by decide) rfl (fun ls hl => ?_)
    have lp51 : ∀ (I_51 : (Nat → Int32)) (k_51 : Int32 → (Nat → Nat → Int32) → Option ((Nat → Int32) × (Nat → Nat → Int32))), (∀ (x1 : Int32) (A_51 : (Nat → Nat → Int32)), k_51 x1 A_51 = some res → g_At (dC, dI) p l e (headSpec wsX8_keeps rm_X8_keeps_M).room s m args below meth c Q (wM a cy I A T) sz 2 (wM a cy I_51 A_51 T) [(0, .ref (a 0))] 83 []) → ∀ (n_51 : Nat) (x1 : Int32) (A_51 : (Nat → Nat → Int32)), f_X8_keeps_M_L51 N k_51 I_51 n_51 x1 A_51 = some res → g_At (dC, dI) p l e (headSpec wsX8_keeps rm_X8_keeps_M).room s m args below meth c Q (wM a cy I A T) sz 2 (wM a cy I_51 A_51 T) [(0, .ref (a 0)), (1, .int x1)] 51 [] := by
      intro I_51 k_51 hk_51 n_51
      induction n_51 with
      | zero =>
        intro x1 A_51 h
        exact absurd h (by rw [f_X8_keeps_M_L51]; exact fun q => by cases q)
      | succ n_51 ih51 =>
        intro x1 A_51 h H locs hP hD hS ls hl
        rw [f_X8_keeps_M_L51] at h
        refine lv_iload_n hx hb dX8_keeps_51 rfl (lv_at hl 1 rfl) ?_
        refine lv_bipush (v := 15) hx hb dX8_keeps_52 (by decide) ?_
        refine lv_icmp_ge (tgt := 83) hx hb dX8_keeps_54 (by decide) (fun c5 => ?_) (fun c5 => ?_)
        · replace h := ite_t h c5
          exact hk_51 _ _ h _ _ hP hD hS _ (lv_sub hl [0] rfl)
        · replace h := ite_f h c5
          refine lv_aload_n hx hb dX8_keeps_57 rfl (lv_at hl 0 rfl) ?_
          refine va_get (D := (dC, dI)) (ci := 8) (v := .ref (a 5)) (C := RX8) (T := TX8) (N := 19) hx hb hts inX8_keeps_X8 hown hK hP 0 (eM_0 a cy I_51 A_51 T) rfl 6 (by decide) (hts _ mX8_keeps_1) (fun _ h9 => h9) rfl dX8_keeps_58 ?_
          refine lv_bipush (v := 15) hx hb dX8_keeps_61 (by decide) ?_
          refine lv_aload_n hx hb dX8_keeps_63 rfl (lv_at hl 0 rfl) ?_
          refine va_get (D := (dC, dI)) (ci := 8) (v := .int (I_51 1)) (C := RX8) (T := TX8) (N := 19) hx hb hts inX8_keeps_X8 hown hK hP 0 (eM_0 a cy I_51 A_51 T) rfl 7 (by decide) (hts _ mX8_keeps_0) (fun _ h9 => h9) rfl dX8_keeps_64 ?_
          refine lv_imul hx hb dX8_keeps_67 ?_
          refine lv_iload_n hx hb dX8_keeps_68 rfl (lv_at hl 1 rfl) ?_
          refine lv_iadd hx hb dX8_keeps_69 ?_
          refine lv_aload_n hx hb dX8_keeps_70 rfl (lv_at hl 0 rfl) ?_
          refine va_get (D := (dC, dI)) (ci := 8) (v := .ref (a 4)) (C := RX8) (T := TX8) (N := 19) hx hb hts inX8_keeps_X8 hown hK hP 0 (eM_0 a cy I_51 A_51 T) rfl 5 (by decide) (hts _ mX8_keeps_2) (fun _ h9 => h9) rfl dX8_keeps_71 ?_
          refine lv_iload_n hx hb dX8_keeps_74 rfl (lv_at hl 1 rfl) ?_
          obtain ⟨i6, h⟩ := inb_some h
          refine g_iald (f := (A_51 3)) (j := x1.toNatClampNeg) hx hb hK hP 4 (eM_4 a cy I_51 A_51 T) i6 rfl dX8_keeps_75 ?_
          obtain ⟨i7, h⟩ := inb_some h
          refine g_iast (f := (A_51 4)) (j := (((15 * (I_51 1)) + x1)).toNatClampNeg) hx hb hK hP hD hS 5 (eM_5 a cy I_51 A_51 T) i7 rfl dX8_keeps_76 (sM_5 a cy I_51 A_51 T (upd (A_51 4) (((15 * (I_51 1)) + x1)).toNatClampNeg ((A_51 3) x1.toNatClampNeg))) (fun H locs hP hD hS => ?_)
          refine lv_iinc (v := (x1 + 1)) (lv' := [(1, .int (x1 + 1)), (0, .ref (a 0))]) hx hb dX8_keeps_77 hl (k := 1) rfl rfl (by decide) rfl (fun ls hl => ?_)
          refine lv_goto (tgt := 51) hx hb dX8_keeps_80 (by decide) ?_
          exact ih51 _ _ h _ _ hP hD hS _ (lv_sub hl [1, 0] rfl)
    refine lp51 _ _ ?_ N _ _ h _ _ hP hD hS _ (lv_sub hl [1, 0] rfl)
    intro x1 A_51 h H locs hP hD hS ls hl
    refine lv_aload_n hx hb dX8_keeps_83 rfl (lv_at hl 0 rfl) ?_
    refine lv_dup hx hb dX8_keeps_84 rfl ?_
    refine va_get (D := (dC, dI)) (ci := 8) (v := .int ((I 1) - 1)) (C := RX8) (T := TX8) (N := 19) hx hb hts inX8_keeps_X8 hown hK hP 0 (eM_0 a cy (upd I 1 ((I 1) - 1)) A_51 T) rfl 7 (by decide) (hts _ mX8_keeps_0) (fun _ h9 => h9) rfl dX8_keeps_85 ?_
    refine lv_iconst (v := 1) hx hb dX8_keeps_88 (by decide) ?_
    refine lv_iadd hx hb dX8_keeps_89 ?_
    refine g_put (D := (dC, dI)) (ci := 8) (v := .int (((I 1) - 1) + 1)) (ty := .int) (C := RX8) (T := TX8) (N := 19) hx hb hts inX8_keeps_X8 tyX8 tyX8_ok nmX8 hown hK hP hD hS 0 (eM_0 a cy (upd I 1 ((I 1) - 1)) A_51 T) rfl 7 (by decide) (hts _ mX8_keeps_0) (fun _ h9 => h9) rfl (by decide +kernel) rfl rfl (Nat.le_of_ble_eq_true rfl) dX8_keeps_90 (pM_0_7 a cy (upd I 1 ((I 1) - 1)) A_51 T (((I 1) - 1) + 1)) (fun H locs hP hD hS => ?_)
    obtain rfl := Option.some.inj h
    exact g_vret hx hb hr hK hP hD hS hQ dX8_keeps_93
def rm_X8_less_M : Room := { frames := 3, cells := 0, slots := 0, locals := 210 }
def f_X8_less_M (N : Nat) (I : Nat → Int32) (A : Nat → Nat → Int32) (p0 : Int32) (p1 : Int32) : Option (Int32) := (if p0 ≤ p1 then some 0 else some (p0 - p1))
set_option maxHeartbeats 4000000 in
set_option maxRecDepth 100000 in
theorem c_X8_less_M (l : Launch) (dC : Nat → ClassId) (dI : Nat → Nat → Nat) (a : Nat → Nat) (cy : Nat → ClassId) (N : Nat) (I : Nat → Int32) (A : Nat → Nat → Int32) (T : Int64) (p0 : Int32) (p1 : Int32) (res : Int32) (h : f_X8_less_M N I A p0 p1 = some res) (sz : Nat) : Met l yX8_less wsX8_less rm_X8_less_M (g_Pre (dC, dI) cy [.int p0, .int p1] (wM a cy I A T) sz) (g_Qi (dC, dI) cy res (wM a cy I A T) (wM a cy I A T) sz) 0 0 (va_A (wM a cy I A T) sz) := by
  unfold f_X8_less_M at h
  refine g_entry _ _ _ _ _ _ (cc := cX8_less) (maxL := 2) (ret := (some .int)) (by decide) rfl (Nat.le_of_ble_eq_true rfl) ?_
  intro p e s m args below meth c ls hx hb hml hown hts hr hlocks hA hK hP hD hS hl Q hQ
  have hl : lv_has ls 2 [(0, .int p0), (1, .int p1)] := hl
  have hown : s.vm.findClass RX8 = some m.cls := hown
  refine lv_iload_n hx hb dX8_less_0 rfl (lv_at hl 0 rfl) ?_
  refine lv_iload_n hx hb dX8_less_1 rfl (lv_at hl 1 rfl) ?_
  refine lv_icmp_le (tgt := 11) hx hb dX8_less_2 (by decide) (fun c1 => ?_) (fun c1 => ?_)
  · replace h := ite_t h c1
    refine lv_iconst (v := 0) hx hb dX8_less_11 (by decide) ?_
    obtain rfl := Option.some.inj h
    exact g_iret hx hb hr hK hP hD hS hQ dX8_less_12
  · replace h := ite_f h c1
    refine lv_iload_n hx hb dX8_less_5 rfl (lv_at hl 0 rfl) ?_
    refine lv_iload_n hx hb dX8_less_6 rfl (lv_at hl 1 rfl) ?_
    refine lv_isub hx hb dX8_less_7 ?_
    refine lv_goto (tgt := 12) hx hb dX8_less_8 (by decide) ?_
    obtain rfl := Option.some.inj h
    exact g_iret hx hb hr hK hP hD hS hQ dX8_less_12
