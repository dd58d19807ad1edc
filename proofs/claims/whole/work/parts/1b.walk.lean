theorem inX5_readBottle_X6 : ∀ w ∈ u_ws RX6 TX6 6, w ∈ wsX5_readBottle := by decide +kernel
theorem mX5_readBottle_0 : Cond.fieldLink RX5 60 "WarmBottles$Told" "bottles" "I" ∈ wsX5_readBottle := List.mem_of_getElem? (i := 1) rfl
theorem mX5_readBottle_1 : Cond.fieldLink RX5 67 "WarmBottles$Told" "warm" "[I" ∈ wsX5_readBottle := List.mem_of_getElem? (i := 2) rfl
theorem inX5_readBottle_X5 : ∀ w ∈ u_ws RX5 TX5 8, w ∈ wsX5_readBottle := by decide +kernel
theorem mX5_readBottle_2 : Cond.fieldLink RX5 71 "WarmBottles$Text" "value" "I" ∈ wsX5_readBottle := List.mem_of_getElem? (i := 3) rfl
theorem mX5_readBottle_3 : Cond.fieldLink RX5 74 "WarmBottles$Told" "cools" "[I" ∈ wsX5_readBottle := List.mem_of_getElem? (i := 4) rfl
theorem mX5_readBottle_4 : Cond.fieldLink RX5 77 "WarmBottles$Told" "speaks" "[I" ∈ wsX5_readBottle := List.mem_of_getElem? (i := 5) rfl
def rm_X5_readBottle_C : Room := { frames := 11, cells := 0, slots := 0, locals := 450 }
def f_X5_readBottle_C (N : Nat) (I : Nat → Int32) (A : Nat → Nat → Int32)  : Option (Int32 × (Nat → Int32) × (Nat → Nat → Int32)) := (if 6 ≤ (I 7) then some (0, I, A) else (Option.bind (f_X5_readNumber_C N I A 0 99) (fun r2 => (if r2.1 = 0 then some (0, r2.2, A) else (if (I 7) < 0 ∨ 6 ≤ ((I 7)).toNatClampNeg then none else (Option.bind (f_X5_readNumber_C N r2.2 (va_up A 1 (upd (A 1) ((I 7)).toNatClampNeg (r2.2 4))) 1 9) (fun r5 => (if r5.1 = 0 then some (0, r5.2, (va_up A 1 (upd (A 1) ((I 7)).toNatClampNeg (r2.2 4)))) else (Option.bind (f_X5_readNumber_C N r5.2 (va_up (va_up A 1 (upd (A 1) ((I 7)).toNatClampNeg (r2.2 4))) 2 (upd (A 2) ((I 7)).toNatClampNeg (r5.2 4))) 0 99) (fun r7 => (if r7.1 = 0 then some (0, r7.2, (va_up (va_up A 1 (upd (A 1) ((I 7)).toNatClampNeg (r2.2 4))) 2 (upd (A 2) ((I 7)).toNatClampNeg (r5.2 4)))) else some (1, (upd r7.2 7 ((I 7) + 1)), (va_up (va_up (va_up A 1 (upd (A 1) ((I 7)).toNatClampNeg (r2.2 4))) 2 (upd (A 2) ((I 7)).toNatClampNeg (r5.2 4))) 3 (upd (A 3) ((I 7)).toNatClampNeg (r7.2 4)))))))))))))))
set_option maxHeartbeats 4000000 in
set_option maxRecDepth 100000 in
theorem c_X5_readBottle_C (l : Launch) (dC : Nat → ClassId) (dI : Nat → Nat → Nat) (a : Nat → Nat) (cy : Nat → ClassId) (N : Nat) (I : Nat → Int32) (A : Nat → Nat → Int32) (T : Int64)  (res : Int32 × (Nat → Int32) × (Nat → Nat → Int32)) (h : f_X5_readBottle_C N I A  = some res) (sz : Nat) : Met l yX5_readBottle wsX5_readBottle rm_X5_readBottle_C (g_Pre (dC, dI) cy [.ref (a 1), .ref (a 3)] (wC a cy I A T) sz) (g_Qi (dC, dI) cy res.1 (wC a cy I A T) (wC a cy res.2.1 res.2.2 T) sz) 0 0 (va_A (wC a cy I A T) sz) := by
  unfold f_X5_readBottle_C at h
  refine g_entry _ _ _ _ _ _ (cc := cX5_readBottle) (maxL := 3) (ret := (some .boolean)) (by decide) rfl (Nat.le_of_ble_eq_true rfl) ?_
  intro p e s m args below meth c ls hx hb hml hown hts hr hlocks hA hK hP hD hS hl Q hQ
  have hl : lv_has ls 3 [(0, .ref (a 1)), (1, .ref (a 3))] := hl
  have hown : s.vm.findClass RX5 = some m.cls := hown
  refine lv_aload_n hx hb dX5_readBottle_0 rfl (lv_at hl 1 rfl) ?_
  refine va_get (D := (dC, dI)) (ci := 6) (v := .int (I 7)) (C := RX6) (T := TX6) (N := 6) hx hb hts inX5_readBottle_X6 hown hK hP 3 (eC_3 a cy I A T) rfl 3 (by decide) (hts _ mX5_readBottle_0) (fun _ h9 => h9) rfl dX5_readBottle_1 ?_
  refine lv_istore_n (lv' := [(2, .int (I 7)), (0, .ref (a 1)), (1, .ref (a 3))]) hx hb dX5_readBottle_4 rfl hl (by decide) rfl (fun ls hl => ?_)
  refine lv_iload_n hx hb dX5_readBottle_5 rfl (lv_at hl 0 rfl) ?_
  refine lv_bipush (v := 6) hx hb dX5_readBottle_6 (by decide) ?_
  refine lv_icmp_ge (tgt := 21) hx hb dX5_readBottle_8 (by decide) (fun c1 => ?_) (fun c1 => ?_)
  · replace h := ite_t h c1
    refine lv_iconst (v := 0) hx hb dX5_readBottle_21 (by decide) ?_
    obtain rfl := Option.some.inj h
    exact g_zret hx hb hr (by decide) hK hP hD hS hQ dX5_readBottle_22
  · replace h := ite_f h c1
    refine lv_aload_n hx hb dX5_readBottle_11 rfl (lv_at hl 1 rfl) ?_
    refine lv_iconst (v := 0) hx hb dX5_readBottle_12 (by decide) ?_
    refine lv_bipush (v := 99) hx hb dX5_readBottle_13 (by decide) ?_
    obtain ⟨r2, hr2, h⟩ := bnd_some h
    refine g_callVi (As := [.int 0, .int 99]) (rest := []) (ci := 5) (q0 := 1) hx hb hml hown hts (c_X5_readNumber_C l dC dI a cy N I A T 0 99 r2 hr2) (cwV 2 hts gX5_readBottle_X5_readNumber rfl rfl rfl (by decide +kernel) ⟨Nat.le_of_ble_eq_true rfl, Nat.le_of_ble_eq_true rfl⟩) hK hP hD hS hA rfl (eC_1 a cy I A T) rfl rfl hl.1 rfl (Nat.le_of_ble_eq_true rfl) dX5_readBottle_15 (fun H locs hP hD hS => ?_)
    refine lv_if_ne (tgt := 23) hx hb dX5_readBottle_18 (by decide) (fun c3 => ?_) (fun c3 => ?_)
    · replace h := ite_f h c3
      refine lv_aload_n hx hb dX5_readBottle_23 rfl (lv_at hl 2 rfl) ?_
      refine va_get (D := (dC, dI)) (ci := 6) (v := .ref (a 4)) (C := RX6) (T := TX6) (N := 6) hx hb hts inX5_readBottle_X6 hown hK hP 3 (eC_3 a cy r2.2 A T) rfl 0 (by decide) (hts _ mX5_readBottle_1) (fun _ h9 => h9) rfl dX5_readBottle_24 ?_
      refine lv_iload_n hx hb dX5_readBottle_27 rfl (lv_at hl 0 rfl) ?_
      refine lv_aload_n hx hb dX5_readBottle_28 rfl (lv_at hl 1 rfl) ?_
      refine va_get (D := (dC, dI)) (ci := 5) (v := .int (r2.2 4)) (C := RX5) (T := TX5) (N := 8) hx hb hts inX5_readBottle_X5 hown hK hP 1 (eC_1 a cy r2.2 A T) rfl 5 (by decide) (hts _ mX5_readBottle_2) (fun _ h9 => h9) rfl dX5_readBottle_29 ?_
      obtain ⟨i4, h⟩ := inb_some h
      refine g_iast (f := (A 1)) (j := ((I 7)).toNatClampNeg) hx hb hK hP hD hS 4 (eC_4 a cy r2.2 A T) i4 rfl dX5_readBottle_32 (sC_4 a cy r2.2 A T (upd (A 1) ((I 7)).toNatClampNeg (r2.2 4))) (fun H locs hP hD hS => ?_)
      refine lv_aload_n hx hb dX5_readBottle_33 rfl (lv_at hl 1 rfl) ?_
      refine lv_iconst (v := 1) hx hb dX5_readBottle_34 (by decide) ?_
      refine lv_bipush (v := 9) hx hb dX5_readBottle_35 (by decide) ?_
      obtain ⟨r5, hr5, h⟩ := bnd_some h
      refine g_callVi (As := [.int 1, .int 9]) (rest := []) (ci := 5) (q0 := 1) hx hb hml hown hts (c_X5_readNumber_C l dC dI a cy N r2.2 (va_up A 1 (upd (A 1) ((I 7)).toNatClampNeg (r2.2 4))) T 1 9 r5 hr5) (cwV 2 hts gX5_readBottle_X5_readNumber rfl rfl rfl (by decide +kernel) ⟨Nat.le_of_ble_eq_true rfl, Nat.le_of_ble_eq_true rfl⟩) hK hP hD hS hA rfl (eC_1 a cy r2.2 (va_up A 1 (upd (A 1) ((I 7)).toNatClampNeg (r2.2 4))) T) rfl rfl hl.1 rfl (Nat.le_of_ble_eq_true rfl) dX5_readBottle_37 (fun H locs hP hD hS => ?_)
      refine lv_if_ne (tgt := 45) hx hb dX5_readBottle_40 (by decide) (fun c6 => ?_) (fun c6 => ?_)
      · replace h := ite_f h c6
        refine lv_aload_n hx hb dX5_readBottle_45 rfl (lv_at hl 2 rfl) ?_
        refine va_get (D := (dC, dI)) (ci := 6) (v := .ref (a 5)) (C := RX6) (T := TX6) (N := 6) hx hb hts inX5_readBottle_X6 hown hK hP 3 (eC_3 a cy r5.2 (va_up A 1 (upd (A 1) ((I 7)).toNatClampNeg (r2.2 4))) T) rfl 1 (by decide) (hts _ mX5_readBottle_3) (fun _ h9 => h9) rfl dX5_readBottle_46 ?_
        refine lv_iload_n hx hb dX5_readBottle_49 rfl (lv_at hl 0 rfl) ?_
        refine lv_aload_n hx hb dX5_readBottle_50 rfl (lv_at hl 1 rfl) ?_
        refine va_get (D := (dC, dI)) (ci := 5) (v := .int (r5.2 4)) (C := RX5) (T := TX5) (N := 8) hx hb hts inX5_readBottle_X5 hown hK hP 1 (eC_1 a cy r5.2 (va_up A 1 (upd (A 1) ((I 7)).toNatClampNeg (r2.2 4))) T) rfl 5 (by decide) (hts _ mX5_readBottle_2) (fun _ h9 => h9) rfl dX5_readBottle_51 ?_
        refine g_iast (f := (A 2)) (j := ((I 7)).toNatClampNeg) hx hb hK hP hD hS 5 (eC_5 a cy r5.2 (va_up A 1 (upd (A 1) ((I 7)).toNatClampNeg (r2.2 4))) T) i4 rfl dX5_readBottle_54 (sC_5 a cy r5.2 (va_up A 1 (upd (A 1) ((I 7)).toNatClampNeg (r2.2 4))) T (upd (A 2) ((I 7)).toNatClampNeg (r5.2 4))) (fun H locs hP hD hS => ?_)
        refine lv_aload_n hx hb dX5_readBottle_55 rfl (lv_at hl 1 rfl) ?_
        refine lv_iconst (v := 0) hx hb dX5_readBottle_56 (by decide) ?_
        refine lv_bipush (v := 99) hx hb dX5_readBottle_57 (by decide) ?_
        obtain ⟨r7, hr7, h⟩ := bnd_some h
        refine g_callVi (As := [.int 0, .int 99]) (rest := []) (ci := 5) (q0 := 1) hx hb hml hown hts (c_X5_readNumber_C l dC dI a cy N r5.2 (va_up (va_up A 1 (upd (A 1) ((I 7)).toNatClampNeg (r2.2 4))) 2 (upd (A 2) ((I 7)).toNatClampNeg (r5.2 4))) T 0 99 r7 hr7) (cwV 2 hts gX5_readBottle_X5_readNumber rfl rfl rfl (by decide +kernel) ⟨Nat.le_of_ble_eq_true rfl, Nat.le_of_ble_eq_true rfl⟩) hK hP hD hS hA rfl (eC_1 a cy r5.2 (va_up (va_up A 1 (upd (A 1) ((I 7)).toNatClampNeg (r2.2 4))) 2 (upd (A 2) ((I 7)).toNatClampNeg (r5.2 4))) T) rfl rfl hl.1 rfl (Nat.le_of_ble_eq_true rfl) dX5_readBottle_59 (fun H locs hP hD hS => ?_)
        refine lv_if_ne (tgt := 67) hx hb dX5_readBottle_62 (by decide) (fun c8 => ?_) (fun c8 => ?_)
        · replace h := ite_f h c8
          refine lv_aload_n hx hb dX5_readBottle_67 rfl (lv_at hl 2 rfl) ?_
          refine va_get (D := (dC, dI)) (ci := 6) (v := .ref (a 6)) (C := RX6) (T := TX6) (N := 6) hx hb hts inX5_readBottle_X6 hown hK hP 3 (eC_3 a cy r7.2 (va_up (va_up A 1 (upd (A 1) ((I 7)).toNatClampNeg (r2.2 4))) 2 (upd (A 2) ((I 7)).toNatClampNeg (r5.2 4))) T) rfl 2 (by decide) (hts _ mX5_readBottle_4) (fun _ h9 => h9) rfl dX5_readBottle_68 ?_
          refine lv_iload_n hx hb dX5_readBottle_71 rfl (lv_at hl 0 rfl) ?_
          refine lv_aload_n hx hb dX5_readBottle_72 rfl (lv_at hl 1 rfl) ?_
          refine va_get (D := (dC, dI)) (ci := 5) (v := .int (r7.2 4)) (C := RX5) (T := TX5) (N := 8) hx hb hts inX5_readBottle_X5 hown hK hP 1 (eC_1 a cy r7.2 (va_up (va_up A 1 (upd (A 1) ((I 7)).toNatClampNeg (r2.2 4))) 2 (upd (A 2) ((I 7)).toNatClampNeg (r5.2 4))) T) rfl 5 (by decide) (hts _ mX5_readBottle_2) (fun _ h9 => h9) rfl dX5_readBottle_73 ?_
          refine g_iast (f := (A 3)) (j := ((I 7)).toNatClampNeg) hx hb hK hP hD hS 6 (eC_6 a cy r7.2 (va_up (va_up A 1 (upd (A 1) ((I 7)).toNatClampNeg (r2.2 4))) 2 (upd (A 2) ((I 7)).toNatClampNeg (r5.2 4))) T) i4 rfl dX5_readBottle_76 (sC_6 a cy r7.2 (va_up (va_up A 1 (upd (A 1) ((I 7)).toNatClampNeg (r2.2 4))) 2 (upd (A 2) ((I 7)).toNatClampNeg (r5.2 4))) T (upd (A 3) ((I 7)).toNatClampNeg (r7.2 4))) (fun H locs hP hD hS => ?_)
          refine lv_aload_n hx hb dX5_readBottle_77 rfl (lv_at hl 2 rfl) ?_
          refine lv_iload_n hx hb dX5_readBottle_78 rfl (lv_at hl 0 rfl) ?_
          refine lv_iconst (v := 1) hx hb dX5_readBottle_79 (by decide) ?_
          refine lv_iadd hx hb dX5_readBottle_80 ?_
          refine g_put (D := (dC, dI)) (ci := 6) (v := .int ((I 7) + 1)) (ty := .int) (C := RX6) (T := TX6) (N := 6) hx hb hts inX5_readBottle_X6 tyX6 tyX6_ok nmX6 hown hK hP hD hS 3 (eC_3 a cy r7.2 (va_up (va_up (va_up A 1 (upd (A 1) ((I 7)).toNatClampNeg (r2.2 4))) 2 (upd (A 2) ((I 7)).toNatClampNeg (r5.2 4))) 3 (upd (A 3) ((I 7)).toNatClampNeg (r7.2 4))) T) rfl 3 (by decide) (hts _ mX5_readBottle_0) (fun _ h9 => h9) rfl (by decide +kernel) rfl rfl (Nat.le_of_ble_eq_true rfl) dX5_readBottle_81 (pC_3_3 a cy r7.2 (va_up (va_up (va_up A 1 (upd (A 1) ((I 7)).toNatClampNeg (r2.2 4))) 2 (upd (A 2) ((I 7)).toNatClampNeg (r5.2 4))) 3 (upd (A 3) ((I 7)).toNatClampNeg (r7.2 4))) T ((I 7) + 1)) (fun H locs hP hD hS => ?_)
          refine lv_iconst (v := 1) hx hb dX5_readBottle_84 (by decide) ?_
          obtain rfl := Option.some.inj h
          exact g_zret hx hb hr (by decide) hK hP hD hS hQ dX5_readBottle_85
        · replace h := ite_t h c8
          refine lv_iconst (v := 0) hx hb dX5_readBottle_65 (by decide) ?_
          obtain rfl := Option.some.inj h
          exact g_zret hx hb hr (by decide) hK hP hD hS hQ dX5_readBottle_66
      · replace h := ite_t h c6
        refine lv_iconst (v := 0) hx hb dX5_readBottle_43 (by decide) ?_
        obtain rfl := Option.some.inj h
        exact g_zret hx hb hr (by decide) hK hP hD hS hQ dX5_readBottle_44
    · replace h := ite_t h c3
      refine lv_iconst (v := 0) hx hb dX5_readBottle_21 (by decide) ?_
      obtain rfl := Option.some.inj h
      exact g_zret hx hb hr (by decide) hK hP hD hS hQ dX5_readBottle_22
theorem inX5_readSemicolon_X5 : ∀ w ∈ u_ws RX5 TX5 8, w ∈ wsX5_readSemicolon := by decide +kernel
theorem mX5_readSemicolon_0 : Cond.fieldLink RX5 37 "WarmBottles$Text" "token" "I" ∈ wsX5_readSemicolon := List.mem_of_getElem? (i := 1) rfl
def rm_X5_readSemicolon_C : Room := { frames := 9, cells := 0, slots := 0, locals := 390 }
def f_X5_readSemicolon_C (N : Nat) (I : Nat → Int32) (A : Nat → Nat → Int32)  : Option (Int32 × (Nat → Int32)) := (Option.bind (f_X5_readToken_C N I A) (fun r1 => (if (r1 3) = 59 then some (1, r1) else some (0, r1))))
set_option maxHeartbeats 4000000 in
set_option maxRecDepth 100000 in
theorem c_X5_readSemicolon_C (l : Launch) (dC : Nat → ClassId) (dI : Nat → Nat → Nat) (a : Nat → Nat) (cy : Nat → ClassId) (N : Nat) (I : Nat → Int32) (A : Nat → Nat → Int32) (T : Int64)  (res : Int32 × (Nat → Int32)) (h : f_X5_readSemicolon_C N I A  = some res) (sz : Nat) : Met l yX5_readSemicolon wsX5_readSemicolon rm_X5_readSemicolon_C (g_Pre (dC, dI) cy [.ref (a 1)] (wC a cy I A T) sz) (g_Qi (dC, dI) cy res.1 (wC a cy I A T) (wC a cy res.2 A T) sz) 0 0 (va_A (wC a cy I A T) sz) := by
  unfold f_X5_readSemicolon_C at h
  refine g_entry _ _ _ _ _ _ (cc := cX5_readSemicolon) (maxL := 1) (ret := (some .boolean)) (by decide) rfl (Nat.le_of_ble_eq_true rfl) ?_
  intro p e s m args below meth c ls hx hb hml hown hts hr hlocks hA hK hP hD hS hl Q hQ
  have hl : lv_has ls 1 [(0, .ref (a 1))] := hl
  have hown : s.vm.findClass RX5 = some m.cls := hown
  refine lv_aload_n hx hb dX5_readSemicolon_0 rfl (lv_at hl 0 rfl) ?_
  obtain ⟨r1, hr1, h⟩ := bnd_some h
  refine g_callVv (As := []) (rest := []) (ci := 5) (q0 := 1) hx hb hml hown hts (c_X5_readToken_C l dC dI a cy N I A T r1 hr1) (cwV 0 hts gX5_readSemicolon_X5_readToken rfl rfl rfl (by decide +kernel) ⟨Nat.le_of_ble_eq_true rfl, Nat.le_of_ble_eq_true rfl⟩) hK hP hD hS hA rfl (eC_1 a cy I A T) rfl rfl hl.1 rfl (Nat.le_of_ble_eq_true rfl) dX5_readSemicolon_1 (fun H locs hP hD hS => ?_)
  refine lv_aload_n hx hb dX5_readSemicolon_4 rfl (lv_at hl 0 rfl) ?_
  refine va_get (D := (dC, dI)) (ci := 5) (v := .int (r1 3)) (C := RX5) (T := TX5) (N := 8) hx hb hts inX5_readSemicolon_X5 hown hK hP 1 (eC_1 a cy r1 A T) rfl 4 (by decide) (hts _ mX5_readSemicolon_0) (fun _ h9 => h9) rfl dX5_readSemicolon_5 ?_
  refine lv_bipush (v := 59) hx hb dX5_readSemicolon_8 (by decide) ?_
  refine lv_icmp_ne (tgt := 17) hx hb dX5_readSemicolon_10 (by decide) (fun c2 => ?_) (fun c2 => ?_)
  · replace h := ite_f h c2
    refine lv_iconst (v := 0) hx hb dX5_readSemicolon_17 (by decide) ?_
    obtain rfl := Option.some.inj h
    exact g_zret hx hb hr (by decide) hK hP hD hS hQ dX5_readSemicolon_18
  · replace h := ite_t h c2
    refine lv_iconst (v := 1) hx hb dX5_readSemicolon_13 (by decide) ?_
    refine lv_goto (tgt := 18) hx hb dX5_readSemicolon_14 (by decide) ?_
    obtain rfl := Option.some.inj h
    exact g_zret hx hb hr (by decide) hK hP hD hS hQ dX5_readSemicolon_18
theorem inX5_readKettle_X5 : ∀ w ∈ u_ws RX5 TX5 8, w ∈ wsX5_readKettle := by decide +kernel
theorem mX5_readKettle_0 : Cond.fieldLink RX5 27 "WarmBottles$Text" "kettleTold" "Z" ∈ wsX5_readKettle := List.mem_of_getElem? (i := 1) rfl
theorem mX5_readKettle_1 : Cond.fieldLink RX5 71 "WarmBottles$Text" "value" "I" ∈ wsX5_readKettle := List.mem_of_getElem? (i := 2) rfl
theorem inX5_readKettle_X6 : ∀ w ∈ u_ws RX6 TX6 6, w ∈ wsX5_readKettle := by decide +kernel
theorem mX5_readKettle_2 : Cond.fieldLink RX5 80 "WarmBottles$Told" "kettle" "I" ∈ wsX5_readKettle := List.mem_of_getElem? (i := 3) rfl
def rm_X5_readKettle_C : Room := { frames := 11, cells := 0, slots := 0, locals := 450 }
def f_X5_readKettle_C (N : Nat) (I : Nat → Int32) (A : Nat → Nat → Int32)  : Option (Int32 × (Nat → Int32)) := (if (I 5) = 0 then (Option.bind (f_X5_readNumber_C N I A 0 60) (fun r2 => (if r2.1 = 0 then some (0, r2.2) else some (1, (upd (upd r2.2 5 1) 8 (r2.2 4)))))) else some (0, I))
set_option maxHeartbeats 4000000 in
set_option maxRecDepth 100000 in
theorem c_X5_readKettle_C (l : Launch) (dC : Nat → ClassId) (dI : Nat → Nat → Nat) (a : Nat → Nat) (cy : Nat → ClassId) (N : Nat) (I : Nat → Int32) (A : Nat → Nat → Int32) (T : Int64)  (res : Int32 × (Nat → Int32)) (h : f_X5_readKettle_C N I A  = some res) (sz : Nat) : Met l yX5_readKettle wsX5_readKettle rm_X5_readKettle_C (g_Pre (dC, dI) cy [.ref (a 1), .ref (a 3)] (wC a cy I A T) sz) (g_Qi (dC, dI) cy res.1 (wC a cy I A T) (wC a cy res.2 A T) sz) 0 0 (va_A (wC a cy I A T) sz) := by
  unfold f_X5_readKettle_C at h
  refine g_entry _ _ _ _ _ _ (cc := cX5_readKettle) (maxL := 2) (ret := (some .boolean)) (by decide) rfl (Nat.le_of_ble_eq_true rfl) ?_
  intro p e s m args below meth c ls hx hb hml hown hts hr hlocks hA hK hP hD hS hl Q hQ
  have hl : lv_has ls 2 [(0, .ref (a 1)), (1, .ref (a 3))] := hl
  have hown : s.vm.findClass RX5 = some m.cls := hown
  refine lv_aload_n hx hb dX5_readKettle_0 rfl (lv_at hl 0 rfl) ?_
  refine va_get (D := (dC, dI)) (ci := 5) (v := .int (I 5)) (C := RX5) (T := TX5) (N := 8) hx hb hts inX5_readKettle_X5 hown hK hP 1 (eC_1 a cy I A T) rfl 6 (by decide) (hts _ mX5_readKettle_0) (fun _ h9 => h9) rfl dX5_readKettle_1 ?_
  refine lv_if_ne (tgt := 17) hx hb dX5_readKettle_4 (by decide) (fun c1 => ?_) (fun c1 => ?_)
  · replace h := ite_f h c1
    refine lv_iconst (v := 0) hx hb dX5_readKettle_17 (by decide) ?_
    obtain rfl := Option.some.inj h
    exact g_zret hx hb hr (by decide) hK hP hD hS hQ dX5_readKettle_18
  · replace h := ite_t h c1
    refine lv_aload_n hx hb dX5_readKettle_7 rfl (lv_at hl 0 rfl) ?_
    refine lv_iconst (v := 0) hx hb dX5_readKettle_8 (by decide) ?_
    refine lv_bipush (v := 60) hx hb dX5_readKettle_9 (by decide) ?_
    obtain ⟨r2, hr2, h⟩ := bnd_some h
    refine g_callVi (As := [.int 0, .int 60]) (rest := []) (ci := 5) (q0 := 1) hx hb hml hown hts (c_X5_readNumber_C l dC dI a cy N I A T 0 60 r2 hr2) (cwV 2 hts gX5_readKettle_X5_readNumber rfl rfl rfl (by decide +kernel) ⟨Nat.le_of_ble_eq_true rfl, Nat.le_of_ble_eq_true rfl⟩) hK hP hD hS hA rfl (eC_1 a cy I A T) rfl rfl hl.1 rfl (Nat.le_of_ble_eq_true rfl) dX5_readKettle_11 (fun H locs hP hD hS => ?_)
    refine lv_if_ne (tgt := 19) hx hb dX5_readKettle_14 (by decide) (fun c3 => ?_) (fun c3 => ?_)
    · replace h := ite_f h c3
      refine lv_aload_n hx hb dX5_readKettle_19 rfl (lv_at hl 0 rfl) ?_
      refine lv_iconst (v := 1) hx hb dX5_readKettle_20 (by decide) ?_
      refine g_put (D := (dC, dI)) (ci := 5) (v := .int 1) (ty := .boolean) (C := RX5) (T := TX5) (N := 8) hx hb hts inX5_readKettle_X5 tyX5 tyX5_ok nmX5 hown hK hP hD hS 1 (eC_1 a cy r2.2 A T) rfl 6 (by decide) (hts _ mX5_readKettle_0) (fun _ h9 => h9) rfl (by decide +kernel) (by decide) (by decide) (Nat.le_of_ble_eq_true rfl) dX5_readKettle_21 (pC_1_6 a cy r2.2 A T 1) (fun H locs hP hD hS => ?_)
      refine lv_aload_n hx hb dX5_readKettle_24 rfl (lv_at hl 1 rfl) ?_
      refine lv_aload_n hx hb dX5_readKettle_25 rfl (lv_at hl 0 rfl) ?_
      refine va_get (D := (dC, dI)) (ci := 5) (v := .int (r2.2 4)) (C := RX5) (T := TX5) (N := 8) hx hb hts inX5_readKettle_X5 hown hK hP 1 (eC_1 a cy (upd r2.2 5 1) A T) rfl 5 (by decide) (hts _ mX5_readKettle_1) (fun _ h9 => h9) rfl dX5_readKettle_26 ?_
      refine g_put (D := (dC, dI)) (ci := 6) (v := .int (r2.2 4)) (ty := .int) (C := RX6) (T := TX6) (N := 6) hx hb hts inX5_readKettle_X6 tyX6 tyX6_ok nmX6 hown hK hP hD hS 3 (eC_3 a cy (upd r2.2 5 1) A T) rfl 4 (by decide) (hts _ mX5_readKettle_2) (fun _ h9 => h9) rfl (by decide +kernel) rfl rfl (Nat.le_of_ble_eq_true rfl) dX5_readKettle_29 (pC_3_4 a cy (upd r2.2 5 1) A T (r2.2 4)) (fun H locs hP hD hS => ?_)
      refine lv_iconst (v := 1) hx hb dX5_readKettle_32 (by decide) ?_
      obtain rfl := Option.some.inj h
      exact g_zret hx hb hr (by decide) hK hP hD hS hQ dX5_readKettle_33
    · replace h := ite_t h c3
      refine lv_iconst (v := 0) hx hb dX5_readKettle_17 (by decide) ?_
      obtain rfl := Option.some.inj h
      exact g_zret hx hb hr (by decide) hK hP hD hS hQ dX5_readKettle_18
theorem inX5_readPint_X5 : ∀ w ∈ u_ws RX5 TX5 8, w ∈ wsX5_readPint := by decide +kernel
theorem mX5_readPint_0 : Cond.fieldLink RX5 31 "WarmBottles$Text" "pintTold" "Z" ∈ wsX5_readPint := List.mem_of_getElem? (i := 1) rfl
theorem mX5_readPint_1 : Cond.fieldLink RX5 71 "WarmBottles$Text" "value" "I" ∈ wsX5_readPint := List.mem_of_getElem? (i := 2) rfl
theorem inX5_readPint_X6 : ∀ w ∈ u_ws RX6 TX6 6, w ∈ wsX5_readPint := by decide +kernel
theorem mX5_readPint_2 : Cond.fieldLink RX5 83 "WarmBottles$Told" "pint" "I" ∈ wsX5_readPint := List.mem_of_getElem? (i := 3) rfl
def rm_X5_readPint_C : Room := { frames := 11, cells := 0, slots := 0, locals := 450 }
def f_X5_readPint_C (N : Nat) (I : Nat → Int32) (A : Nat → Nat → Int32)  : Option (Int32 × (Nat → Int32)) := (if (I 6) = 0 then (Option.bind (f_X5_readNumber_C N I A 1 30) (fun r2 => (if r2.1 = 0 then some (0, r2.2) else some (1, (upd (upd r2.2 6 1) 9 (r2.2 4)))))) else some (0, I))
set_option maxHeartbeats 4000000 in
set_option maxRecDepth 100000 in
theorem c_X5_readPint_C (l : Launch) (dC : Nat → ClassId) (dI : Nat → Nat → Nat) (a : Nat → Nat) (cy : Nat → ClassId) (N : Nat) (I : Nat → Int32) (A : Nat → Nat → Int32) (T : Int64)  (res : Int32 × (Nat → Int32)) (h : f_X5_readPint_C N I A  = some res) (sz : Nat) : Met l yX5_readPint wsX5_readPint rm_X5_readPint_C (g_Pre (dC, dI) cy [.ref (a 1), .ref (a 3)] (wC a cy I A T) sz) (g_Qi (dC, dI) cy res.1 (wC a cy I A T) (wC a cy res.2 A T) sz) 0 0 (va_A (wC a cy I A T) sz) := by
  unfold f_X5_readPint_C at h
  refine g_entry _ _ _ _ _ _ (cc := cX5_readPint) (maxL := 2) (ret := (some .boolean)) (by decide) rfl (Nat.le_of_ble_eq_true rfl) ?_
  intro p e s m args below meth c ls hx hb hml hown hts hr hlocks hA hK hP hD hS hl Q hQ
  have hl : lv_has ls 2 [(0, .ref (a 1)), (1, .ref (a 3))] := hl
  have hown : s.vm.findClass RX5 = some m.cls := hown
  refine lv_aload_n hx hb dX5_readPint_0 rfl (lv_at hl 0 rfl) ?_
  refine va_get (D := (dC, dI)) (ci := 5) (v := .int (I 6)) (C := RX5) (T := TX5) (N := 8) hx hb hts inX5_readPint_X5 hown hK hP 1 (eC_1 a cy I A T) rfl 7 (by decide) (hts _ mX5_readPint_0) (fun _ h9 => h9) rfl dX5_readPint_1 ?_
  refine lv_if_ne (tgt := 17) hx hb dX5_readPint_4 (by decide) (fun c1 => ?_) (fun c1 => ?_)
  · replace h := ite_f h c1
    refine lv_iconst (v := 0) hx hb dX5_readPint_17 (by decide) ?_
    obtain rfl := Option.some.inj h
    exact g_zret hx hb hr (by decide) hK hP hD hS hQ dX5_readPint_18
  · replace h := ite_t h c1
    refine lv_aload_n hx hb dX5_readPint_7 rfl (lv_at hl 0 rfl) ?_
    refine lv_iconst (v := 1) hx hb dX5_readPint_8 (by decide) ?_
    refine lv_bipush (v := 30) hx hb dX5_readPint_9 (by decide) ?_
    obtain ⟨r2, hr2, h⟩ := bnd_some h
    refine g_callVi (As := [.int 1, .int 30]) (rest := []) (ci := 5) (q0 := 1) hx hb hml hown hts (c_X5_readNumber_C l dC dI a cy N I A T 1 30 r2 hr2) (cwV 2 hts gX5_readPint_X5_readNumber rfl rfl rfl (by decide +kernel) ⟨Nat.le_of_ble_eq_true rfl, Nat.le_of_ble_eq_true rfl⟩) hK hP hD hS hA rfl (eC_1 a cy I A T) rfl rfl hl.1 rfl (Nat.le_of_ble_eq_true rfl) dX5_readPint_11 (fun H locs hP hD hS => ?_)
    refine lv_if_ne (tgt := 19) hx hb dX5_readPint_14 (by decide) (fun c3 => ?_) (fun c3 => ?_)
    · replace h := ite_f h c3
      refine lv_aload_n hx hb dX5_readPint_19 rfl (lv_at hl 0 rfl) ?_
      refine lv_iconst (v := 1) hx hb dX5_readPint_20 (by decide) ?_
      refine g_put (D := (dC, dI)) (ci := 5) (v := .int 1) (ty := .boolean) (C := RX5) (T := TX5) (N := 8) hx hb hts inX5_readPint_X5 tyX5 tyX5_ok nmX5 hown hK hP hD hS 1 (eC_1 a cy r2.2 A T) rfl 7 (by decide) (hts _ mX5_readPint_0) (fun _ h9 => h9) rfl (by decide +kernel) (by decide) (by decide) (Nat.le_of_ble_eq_true rfl) dX5_readPint_21 (pC_1_7 a cy r2.2 A T 1) (fun H locs hP hD hS => ?_)
      refine lv_aload_n hx hb dX5_readPint_24 rfl (lv_at hl 1 rfl) ?_
      refine lv_aload_n hx hb dX5_readPint_25 rfl (lv_at hl 0 rfl) ?_
      refine va_get (D := (dC, dI)) (ci := 5) (v := .int (r2.2 4)) (C := RX5) (T := TX5) (N := 8) hx hb hts inX5_readPint_X5 hown hK hP 1 (eC_1 a cy (upd r2.2 6 1) A T) rfl 5 (by decide) (hts _ mX5_readPint_1) (fun _ h9 => h9) rfl dX5_readPint_26 ?_
      refine g_put (D := (dC, dI)) (ci := 6) (v := .int (r2.2 4)) (ty := .int) (C := RX6) (T := TX6) (N := 6) hx hb hts inX5_readPint_X6 tyX6 tyX6_ok nmX6 hown hK hP hD hS 3 (eC_3 a cy (upd r2.2 6 1) A T) rfl 5 (by decide) (hts _ mX5_readPint_2) (fun _ h9 => h9) rfl (by decide +kernel) rfl rfl (Nat.le_of_ble_eq_true rfl) dX5_readPint_29 (pC_3_5 a cy (upd r2.2 6 1) A T (r2.2 4)) (fun H locs hP hD hS => ?_)
      refine lv_iconst (v := 1) hx hb dX5_readPint_32 (by decide) ?_
      obtain rfl := Option.some.inj h
      exact g_zret hx hb hr (by decide) hK hP hD hS hQ dX5_readPint_33
    · replace h := ite_t h c3
      refine lv_iconst (v := 0) hx hb dX5_readPint_17 (by decide) ?_
      obtain rfl := Option.some.inj h
      exact g_zret hx hb hr (by decide) hK hP hD hS hQ dX5_readPint_18
theorem inX5_readItem_X5 : ∀ w ∈ u_ws RX5 TX5 8, w ∈ wsX5_readItem := by decide +kernel
theorem mX5_readItem_0 : Cond.fieldLink RX5 37 "WarmBottles$Text" "token" "I" ∈ wsX5_readItem := List.mem_of_getElem? (i := 1) rfl
def rm_X5_readItem_C : Room := { frames := 13, cells := 0, slots := 0, locals := 510 }
def f_X5_readItem_C (N : Nat) (I : Nat → Int32) (A : Nat → Nat → Int32)  : Option (Int32 × (Nat → Int32) × (Nat → Nat → Int32)) := (if (I 3) = 98 then (Option.bind (f_X5_readBottle_C N I A) (fun r2 => (if r2.1 = 0 then some (0, r2.2.1, r2.2.2) else (Option.bind (f_X5_readSemicolon_C N r2.2.1 r2.2.2) (fun r4 => (if r4.1 = 0 then some (0, r4.2, r2.2.2) else some (1, r4.2, r2.2.2))))))) else (if (I 3) = 107 then (Option.bind (f_X5_readKettle_C N I A) (fun r7 => (if r7.1 = 0 then some (0, r7.2, A) else (Option.bind (f_X5_readSemicolon_C N r7.2 A) (fun r9 => (if r9.1 = 0 then some (0, r9.2, A) else some (1, r9.2, A))))))) else (if (I 3) = 112 then (Option.bind (f_X5_readPint_C N I A) (fun r12 => (if r12.1 = 0 then some (0, r12.2, A) else (Option.bind (f_X5_readSemicolon_C N r12.2 A) (fun r14 => (if r14.1 = 0 then some (0, r14.2, A) else some (1, r14.2, A))))))) else some (0, I, A))))
set_option maxHeartbeats 4000000 in
set_option maxRecDepth 100000 in
theorem c_X5_readItem_C (l : Launch) (dC : Nat → ClassId) (dI : Nat → Nat → Nat) (a : Nat → Nat) (cy : Nat → ClassId) (N : Nat) (I : Nat → Int32) (A : Nat → Nat → Int32) (T : Int64)  (res : Int32 × (Nat → Int32) × (Nat → Nat → Int32)) (h : f_X5_readItem_C N I A  = some res) (sz : Nat) : Met l yX5_readItem wsX5_readItem rm_X5_readItem_C (g_Pre (dC, dI) cy [.ref (a 1), .ref (a 3)] (wC a cy I A T) sz) (g_Qi (dC, dI) cy res.1 (wC a cy I A T) (wC a cy res.2.1 res.2.2 T) sz) 0 0 (va_A (wC a cy I A T) sz) := by
  unfold f_X5_readItem_C at h
  refine g_entry _ _ _ _ _ _ (cc := cX5_readItem) (maxL := 2) (ret := (some .boolean)) (by decide) rfl (Nat.le_of_ble_eq_true rfl) ?_
  intro p e s m args below meth c ls hx hb hml hown hts hr hlocks hA hK hP hD hS hl Q hQ
  have hl : lv_has ls 2 [(0, .ref (a 1)), (1, .ref (a 3))] := hl
  have hown : s.vm.findClass RX5 = some m.cls := hown
  refine lv_aload_n hx hb dX5_readItem_0 rfl (lv_at hl 0 rfl) ?_
  refine va_get (D := (dC, dI)) (ci := 5) (v := .int (I 3)) (C := RX5) (T := TX5) (N := 8) hx hb hts inX5_readItem_X5 hown hK hP 1 (eC_1 a cy I A T) rfl 4 (by decide) (hts _ mX5_readItem_0) (fun _ h9 => h9) rfl dX5_readItem_1 ?_
  rcases Decidable.em ((I 3) = 98) with c1 | c1
  · replace h := ite_t h c1
    refine lv_lookup (off := 36) (tgt := 40) hx hb dX5_readItem_4 (by decide) (by rw [c1]; rfl) (by decide) ?_
    refine lv_aload_n hx hb dX5_readItem_40 rfl (lv_at hl 0 rfl) ?_
    refine lv_aload_n hx hb dX5_readItem_41 rfl (lv_at hl 1 rfl) ?_
    obtain ⟨r2, hr2, h⟩ := bnd_some h
    refine g_callVi (As := [.ref (a 3)]) (rest := []) (ci := 5) (q0 := 1) hx hb hml hown hts (c_X5_readBottle_C l dC dI a cy N I A T r2 hr2) (cwV 1 hts gX5_readItem_X5_readBottle rfl rfl rfl (by decide +kernel) ⟨Nat.le_of_ble_eq_true rfl, Nat.le_of_ble_eq_true rfl⟩) hK hP hD hS hA rfl (eC_1 a cy I A T) rfl rfl hl.1 rfl (Nat.le_of_ble_eq_true rfl) dX5_readItem_42 (fun H locs hP hD hS => ?_)
    refine lv_if_eq (tgt := 59) hx hb dX5_readItem_45 (by decide) (fun c3 => ?_) (fun c3 => ?_)
    · replace h := ite_t h c3
      refine lv_iconst (v := 0) hx hb dX5_readItem_59 (by decide) ?_
      obtain rfl := Option.some.inj h
      exact g_zret hx hb hr (by decide) hK hP hD hS hQ dX5_readItem_60
    · replace h := ite_f h c3
      refine lv_aload_n hx hb dX5_readItem_48 rfl (lv_at hl 0 rfl) ?_
      obtain ⟨r4, hr4, h⟩ := bnd_some h
      refine g_callVi (As := []) (rest := []) (ci := 5) (q0 := 1) hx hb hml hown hts (c_X5_readSemicolon_C l dC dI a cy N r2.2.1 r2.2.2 T r4 hr4) (cwV 0 hts gX5_readItem_X5_readSemicolon rfl rfl rfl (by decide +kernel) ⟨Nat.le_of_ble_eq_true rfl, Nat.le_of_ble_eq_true rfl⟩) hK hP hD hS hA rfl (eC_1 a cy r2.2.1 r2.2.2 T) rfl rfl hl.1 rfl (Nat.le_of_ble_eq_true rfl) dX5_readItem_49 (fun H locs hP hD hS => ?_)
      refine lv_if_eq (tgt := 59) hx hb dX5_readItem_52 (by decide) (fun c5 => ?_) (fun c5 => ?_)
      · replace h := ite_t h c5
        refine lv_iconst (v := 0) hx hb dX5_readItem_59 (by decide) ?_
        obtain rfl := Option.some.inj h
        exact g_zret hx hb hr (by decide) hK hP hD hS hQ dX5_readItem_60
      · replace h := ite_f h c5
        refine lv_iconst (v := 1) hx hb dX5_readItem_55 (by decide) ?_
        refine lv_goto (tgt := 60) hx hb dX5_readItem_56 (by decide) ?_
        obtain rfl := Option.some.inj h
        exact g_zret hx hb hr (by decide) hK hP hD hS hQ dX5_readItem_60
  · replace h := ite_f h c1
    rcases Decidable.em ((I 3) = 107) with c6 | c6
    · replace h := ite_t h c6
      refine lv_lookup (off := 57) (tgt := 61) hx hb dX5_readItem_4 (by decide) (by rw [c6]; rfl) (by decide) ?_
      refine lv_aload_n hx hb dX5_readItem_61 rfl (lv_at hl 0 rfl) ?_
      refine lv_aload_n hx hb dX5_readItem_62 rfl (lv_at hl 1 rfl) ?_
      obtain ⟨r7, hr7, h⟩ := bnd_some h
      refine g_callVi (As := [.ref (a 3)]) (rest := []) (ci := 5) (q0 := 1) hx hb hml hown hts (c_X5_readKettle_C l dC dI a cy N I A T r7 hr7) (cwV 1 hts gX5_readItem_X5_readKettle rfl rfl rfl (by decide +kernel) ⟨Nat.le_of_ble_eq_true rfl, Nat.le_of_ble_eq_true rfl⟩) hK hP hD hS hA rfl (eC_1 a cy I A T) rfl rfl hl.1 rfl (Nat.le_of_ble_eq_true rfl) dX5_readItem_63 (fun H locs hP hD hS => ?_)
      refine lv_if_eq (tgt := 80) hx hb dX5_readItem_66 (by decide) (fun c8 => ?_) (fun c8 => ?_)
      · replace h := ite_t h c8
        refine lv_iconst (v := 0) hx hb dX5_readItem_80 (by decide) ?_
        obtain rfl := Option.some.inj h
        exact g_zret hx hb hr (by decide) hK hP hD hS hQ dX5_readItem_81
      · replace h := ite_f h c8
        refine lv_aload_n hx hb dX5_readItem_69 rfl (lv_at hl 0 rfl) ?_
        obtain ⟨r9, hr9, h⟩ := bnd_some h
        refine g_callVi (As := []) (rest := []) (ci := 5) (q0 := 1) hx hb hml hown hts (c_X5_readSemicolon_C l dC dI a cy N r7.2 A T r9 hr9) (cwV 0 hts gX5_readItem_X5_readSemicolon rfl rfl rfl (by decide +kernel) ⟨Nat.le_of_ble_eq_true rfl, Nat.le_of_ble_eq_true rfl⟩) hK hP hD hS hA rfl (eC_1 a cy r7.2 A T) rfl rfl hl.1 rfl (Nat.le_of_ble_eq_true rfl) dX5_readItem_70 (fun H locs hP hD hS => ?_)
        refine lv_if_eq (tgt := 80) hx hb dX5_readItem_73 (by decide) (fun c10 => ?_) (fun c10 => ?_)
        · replace h := ite_t h c10
          refine lv_iconst (v := 0) hx hb dX5_readItem_80 (by decide) ?_
          obtain rfl := Option.some.inj h
          exact g_zret hx hb hr (by decide) hK hP hD hS hQ dX5_readItem_81
        · replace h := ite_f h c10
          refine lv_iconst (v := 1) hx hb dX5_readItem_76 (by decide) ?_
          refine lv_goto (tgt := 81) hx hb dX5_readItem_77 (by decide) ?_
          obtain rfl := Option.some.inj h
          exact g_zret hx hb hr (by decide) hK hP hD hS hQ dX5_readItem_81
    · replace h := ite_f h c6
      rcases Decidable.em ((I 3) = 112) with c11 | c11
      · replace h := ite_t h c11
        refine lv_lookup (off := 78) (tgt := 82) hx hb dX5_readItem_4 (by decide) (by rw [c11]; rfl) (by decide) ?_
        refine lv_aload_n hx hb dX5_readItem_82 rfl (lv_at hl 0 rfl) ?_
        refine lv_aload_n hx hb dX5_readItem_83 rfl (lv_at hl 1 rfl) ?_
        obtain ⟨r12, hr12, h⟩ := bnd_some h
        refine g_callVi (As := [.ref (a 3)]) (rest := []) (ci := 5) (q0 := 1) hx hb hml hown hts (c_X5_readPint_C l dC dI a cy N I A T r12 hr12) (cwV 1 hts gX5_readItem_X5_readPint rfl rfl rfl (by decide +kernel) ⟨Nat.le_of_ble_eq_true rfl, Nat.le_of_ble_eq_true rfl⟩) hK hP hD hS hA rfl (eC_1 a cy I A T) rfl rfl hl.1 rfl (Nat.le_of_ble_eq_true rfl) dX5_readItem_84 (fun H locs hP hD hS => ?_)
        refine lv_if_eq (tgt := 101) hx hb dX5_readItem_87 (by decide) (fun c13 => ?_) (fun c13 => ?_)
        · replace h := ite_t h c13
          refine lv_iconst (v := 0) hx hb dX5_readItem_101 (by decide) ?_
          obtain rfl := Option.some.inj h
          exact g_zret hx hb hr (by decide) hK hP hD hS hQ dX5_readItem_102
        · replace h := ite_f h c13
          refine lv_aload_n hx hb dX5_readItem_90 rfl (lv_at hl 0 rfl) ?_
          obtain ⟨r14, hr14, h⟩ := bnd_some h
          refine g_callVi (As := []) (rest := []) (ci := 5) (q0 := 1) hx hb hml hown hts (c_X5_readSemicolon_C l dC dI a cy N r12.2 A T r14 hr14) (cwV 0 hts gX5_readItem_X5_readSemicolon rfl rfl rfl (by decide +kernel) ⟨Nat.le_of_ble_eq_true rfl, Nat.le_of_ble_eq_true rfl⟩) hK hP hD hS hA rfl (eC_1 a cy r12.2 A T) rfl rfl hl.1 rfl (Nat.le_of_ble_eq_true rfl) dX5_readItem_91 (fun H locs hP hD hS => ?_)
          refine lv_if_eq (tgt := 101) hx hb dX5_readItem_94 (by decide) (fun c15 => ?_) (fun c15 => ?_)
          · replace h := ite_t h c15
            refine lv_iconst (v := 0) hx hb dX5_readItem_101 (by decide) ?_
            obtain rfl := Option.some.inj h
            exact g_zret hx hb hr (by decide) hK hP hD hS hQ dX5_readItem_102
          · replace h := ite_f h c15
            refine lv_iconst (v := 1) hx hb dX5_readItem_97 (by decide) ?_
            refine lv_goto (tgt := 102) hx hb dX5_readItem_98 (by decide) ?_
            obtain rfl := Option.some.inj h
            exact g_zret hx hb hr (by decide) hK hP hD hS hQ dX5_readItem_102
      · replace h := ite_f h c11
        refine lv_lookup (off := 99) (tgt := 103) hx hb dX5_readItem_4 (by decide) ((lv_osw c1 rfl).trans ((lv_osw c6 rfl).trans ((lv_osw c11 rfl).trans rfl))) (by decide) ?_
        refine lv_iconst (v := 0) hx hb dX5_readItem_103 (by decide) ?_
        obtain rfl := Option.some.inj h
        exact g_zret hx hb hr (by decide) hK hP hD hS hQ dX5_readItem_104
theorem inX5_read_X5 : ∀ w ∈ u_ws RX5 TX5 8, w ∈ wsX5_read := by decide +kernel
theorem mX5_read_0 : Cond.fieldLink RX5 24 "WarmBottles$Text" "place" "I" ∈ wsX5_read := List.mem_of_getElem? (i := 1) rfl
theorem mX5_read_1 : Cond.fieldLink RX5 27 "WarmBottles$Text" "kettleTold" "Z" ∈ wsX5_read := List.mem_of_getElem? (i := 2) rfl
theorem mX5_read_2 : Cond.fieldLink RX5 31 "WarmBottles$Text" "pintTold" "Z" ∈ wsX5_read := List.mem_of_getElem? (i := 3) rfl
theorem mX5_read_3 : Cond.fieldLink RX5 44 "WarmBottles$Text" "start" "I" ∈ wsX5_read := List.mem_of_getElem? (i := 6) rfl
theorem mX5_read_4 : Cond.fieldLink RX5 15 "WarmBottles$Text" "length" "I" ∈ wsX5_read := List.mem_of_getElem? (i := 4) rfl
theorem mX5_read_5 : Cond.fieldLink RX5 37 "WarmBottles$Text" "token" "I" ∈ wsX5_read := List.mem_of_getElem? (i := 5) rfl
def rm_X5_read_C : Room := { frames := 15, cells := 0, slots := 0, locals := 570 }
def f_X5_read_C_L21 (N : Nat) (k_21 : Int32 → (Nat → Int32) → (Nat → Nat → Int32) → Option (Int32 × (Nat → Int32) × (Nat → Nat → Int32)))  : Nat → Int32 → (Nat → Int32) → (Nat → Nat → Int32) → Option (Int32 × (Nat → Int32) × (Nat → Nat → Int32))
  | 0, _, _, _ => none
  | n_21 + 1, x2, I_21, A_21 => (if (I_21 0) < x2 then (k_21 x2 I_21 A_21) else (Option.bind (f_X5_readToken_C N I_21 A_21) (fun r3 => (if (r3 3) = (-1) then some (x2, r3, A_21) else (Option.bind (f_X5_readItem_C N r3 A_21) (fun r5 => (if r5.1 = 0 then (k_21 x2 r5.2.1 r5.2.2) else (f_X5_read_C_L21 N k_21  n_21 (x2 + 1) r5.2.1 r5.2.2))))))))
def f_X5_read_C (N : Nat) (I : Nat → Int32) (A : Nat → Nat → Int32)  : Option (Int32 × (Nat → Int32) × (Nat → Nat → Int32)) := (Option.bind (f_X6_beAsAtFirst_C N I A) (fun r1 => (f_X5_read_C_L21 N (fun (x2 : Int32) (I_21 : (Nat → Int32)) (A_21 : (Nat → Nat → Int32)) => some (((-10) - (I_21 2)), I_21, A_21))  N 0 (upd (upd (upd r1 1 0) 5 0) 6 0) A)))
set_option maxHeartbeats 4000000 in
set_option maxRecDepth 100000 in
theorem c_X5_read_C (l : Launch) (dC : Nat → ClassId) (dI : Nat → Nat → Nat) (a : Nat → Nat) (cy : Nat → ClassId) (N : Nat) (I : Nat → Int32) (A : Nat → Nat → Int32) (T : Int64)  (res : Int32 × (Nat → Int32) × (Nat → Nat → Int32)) (h : f_X5_read_C N I A  = some res) (sz : Nat) : Met l yX5_read wsX5_read rm_X5_read_C (g_Pre (dC, dI) cy [.ref (a 1), .ref (a 3)] (wC a cy I A T) sz) (g_Qi (dC, dI) cy res.1 (wC a cy I A T) (wC a cy res.2.1 res.2.2 T) sz) 0 0 (va_A (wC a cy I A T) sz) := by
  unfold f_X5_read_C at h
  refine g_entry _ _ _ _ _ _ (cc := cX5_read) (maxL := 3) (ret := (some .int)) (by decide) rfl (Nat.le_of_ble_eq_true rfl) ?_
  intro p e s m args below meth c ls hx hb hml hown hts hr hlocks hA hK hP hD hS hl Q hQ
  have hl : lv_has ls 3 [(0, .ref (a 1)), (1, .ref (a 3))] := hl
  have hown : s.vm.findClass RX5 = some m.cls := hown
  refine lv_aload_n hx hb dX5_read_0 rfl (lv_at hl 1 rfl) ?_
  obtain ⟨r1, hr1, h⟩ := bnd_some h
  refine g_callVv (As := []) (rest := []) (ci := 6) (q0 := 3) hx hb hml hown hts (c_X6_beAsAtFirst_C l dC dI a cy N I A T r1 hr1) (cwV 0 hts gX5_read_X6_beAsAtFirst rfl rfl rfl (by decide +kernel) ⟨Nat.le_of_ble_eq_true rfl, Nat.le_of_ble_eq_true rfl⟩) hK hP hD hS hA rfl (eC_3 a cy I A T) rfl rfl hl.1 rfl (Nat.le_of_ble_eq_true rfl) dX5_read_1 (fun H locs hP hD hS => ?_)
  refine lv_aload_n hx hb dX5_read_4 rfl (lv_at hl 0 rfl) ?_
  refine lv_iconst (v := 0) hx hb dX5_read_5 (by decide) ?_
  refine g_put (D := (dC, dI)) (ci := 5) (v := .int 0) (ty := .int) (C := RX5) (T := TX5) (N := 8) hx hb hts inX5_read_X5 tyX5 tyX5_ok nmX5 hown hK hP hD hS 1 (eC_1 a cy r1 A T) rfl 2 (by decide) (hts _ mX5_read_0) (fun _ h9 => h9) rfl (by decide +kernel) rfl rfl (Nat.le_of_ble_eq_true rfl) dX5_read_6 (pC_1_2 a cy r1 A T 0) (fun H locs hP hD hS => ?_)
  refine lv_aload_n hx hb dX5_read_9 rfl (lv_at hl 0 rfl) ?_
  refine lv_iconst (v := 0) hx hb dX5_read_10 (by decide) ?_
  refine g_put (D := (dC, dI)) (ci := 5) (v := .int 0) (ty := .boolean) (C := RX5) (T := TX5) (N := 8) hx hb hts inX5_read_X5 tyX5 tyX5_ok nmX5 hown hK hP hD hS 1 (eC_1 a cy (upd r1 1 0) A T) rfl 6 (by decide) (hts _ mX5_read_1) (fun _ h9 => h9) rfl (by decide +kernel) (by decide) (by decide) (Nat.le_of_ble_eq_true rfl) dX5_read_11 (pC_1_6 a cy (upd r1 1 0) A T 0) (fun H locs hP hD hS => ?_)
  refine lv_aload_n hx hb dX5_read_14 rfl (lv_at hl 0 rfl) ?_
  refine lv_iconst (v := 0) hx hb dX5_read_15 (by decide) ?_
  refine g_put (D := (dC, dI)) (ci := 5) (v := .int 0) (ty := .boolean) (C := RX5) (T := TX5) (N := 8) hx hb hts inX5_read_X5 tyX5 tyX5_ok nmX5 hown hK hP hD hS 1 (eC_1 a cy (upd (upd r1 1 0) 5 0) A T) rfl 7 (by decide) (hts _ mX5_read_2) (fun _ h9 => h9) rfl (by decide +kernel) (by decide) (by decide) (Nat.le_of_ble_eq_true rfl) dX5_read_16 (pC_1_7 a cy (upd (upd r1 1 0) 5 0) A T 0) (fun H locs hP hD hS => ?_)
  refine lv_iconst (v := 0) hx hb dX5_read_19 (by decide) ?_
  refine lv_istore_n (lv' := [(2, .int 0), (0, .ref (a 1)), (1, .ref (a 3))]) hx hb dX5_read_20 rfl hl (by decide) rfl (fun ls hl => ?_)
  have lp21 : ∀  (k_21 : Int32 → (Nat → Int32) → (Nat → Nat → Int32) → Option (Int32 × (Nat → Int32) × (Nat → Nat → Int32))), (∀ (x2 : Int32) (I_21 : (Nat → Int32)) (A_21 : (Nat → Nat → Int32)), k_21 x2 I_21 A_21 = some res → g_At (dC, dI) p l e (headSpec wsX5_read rm_X5_read_C).room s m args below meth c Q (wC a cy I A T) sz 3 (wC a cy I_21 A_21 T) [(0, .ref (a 1))] 60 []) → ∀ (n_21 : Nat) (x2 : Int32) (I_21 : (Nat → Int32)) (A_21 : (Nat → Nat → Int32)), f_X5_read_C_L21 N k_21  n_21 x2 I_21 A_21 = some res → g_At (dC, dI) p l e (headSpec wsX5_read rm_X5_read_C).room s m args below meth c Q (wC a cy I A T) sz 3 (wC a cy I_21 A_21 T) [(0, .ref (a 1)), (1, .ref (a 3)), (2, .int x2)] 21 [] := by
    intro  k_21 hk_21 n_21
    induction n_21 with
    | zero =>
      intro x2 I_21 A_21 h
      exact absurd h (by rw [f_X5_read_C_L21]; exact fun q => by cases q)
    | succ n_21 ih21 =>
      intro x2 I_21 A_21 h H locs hP hD hS ls hl
      rw [f_X5_read_C_L21] at h
      refine lv_iload_n hx hb dX5_read_21 rfl (lv_at hl 2 rfl) ?_
      refine lv_aload_n hx hb dX5_read_22 rfl (lv_at hl 0 rfl) ?_
      refine va_get (D := (dC, dI)) (ci := 5) (v := .int (I_21 0)) (C := RX5) (T := TX5) (N := 8) hx hb hts inX5_read_X5 hown hK hP 1 (eC_1 a cy I_21 A_21 T) rfl 1 (by decide) (hts _ mX5_read_4) (fun _ h9 => h9) rfl dX5_read_23 ?_
      refine lv_icmp_gt (tgt := 60) hx hb dX5_read_26 (by decide) (fun c2 => ?_) (fun c2 => ?_)
      · replace h := ite_t h c2
        exact hk_21 _ _ _ h _ _ hP hD hS _ (lv_sub hl [0] rfl)
      · replace h := ite_f h c2
        refine lv_aload_n hx hb dX5_read_29 rfl (lv_at hl 0 rfl) ?_
        obtain ⟨r3, hr3, h⟩ := bnd_some h
        refine g_callVv (As := []) (rest := []) (ci := 5) (q0 := 1) hx hb hml hown hts (c_X5_readToken_C l dC dI a cy N I_21 A_21 T r3 hr3) (cwV 0 hts gX5_read_X5_readToken rfl rfl rfl (by decide +kernel) ⟨Nat.le_of_ble_eq_true rfl, Nat.le_of_ble_eq_true rfl⟩) hK hP hD hS hA rfl (eC_1 a cy I_21 A_21 T) rfl rfl hl.1 rfl (Nat.le_of_ble_eq_true rfl) dX5_read_30 (fun H locs hP hD hS => ?_)
        refine lv_aload_n hx hb dX5_read_33 rfl (lv_at hl 0 rfl) ?_
        refine va_get (D := (dC, dI)) (ci := 5) (v := .int (r3 3)) (C := RX5) (T := TX5) (N := 8) hx hb hts inX5_read_X5 hown hK hP 1 (eC_1 a cy r3 A_21 T) rfl 4 (by decide) (hts _ mX5_read_5) (fun _ h9 => h9) rfl dX5_read_34 ?_
        refine lv_iconst (v := (-1)) hx hb dX5_read_37 (by decide) ?_
        refine lv_icmp_ne (tgt := 43) hx hb dX5_read_38 (by decide) (fun c4 => ?_) (fun c4 => ?_)
        · replace h := ite_f h c4
          refine lv_aload_n hx hb dX5_read_43 rfl (lv_at hl 0 rfl) ?_
          refine lv_aload_n hx hb dX5_read_44 rfl (lv_at hl 1 rfl) ?_
          obtain ⟨r5, hr5, h⟩ := bnd_some h
          refine g_callVi (As := [.ref (a 3)]) (rest := []) (ci := 5) (q0 := 1) hx hb hml hown hts (c_X5_readItem_C l dC dI a cy N r3 A_21 T r5 hr5) (cwV 1 hts gX5_read_X5_readItem rfl rfl rfl (by decide +kernel) ⟨Nat.le_of_ble_eq_true rfl, Nat.le_of_ble_eq_true rfl⟩) hK hP hD hS hA rfl (eC_1 a cy r3 A_21 T) rfl rfl hl.1 rfl (Nat.le_of_ble_eq_true rfl) dX5_read_45 (fun H locs hP hD hS => ?_)
          refine lv_if_ne (tgt := 54) hx hb dX5_read_48 (by decide) (fun c6 => ?_) (fun c6 => ?_)
          · replace h := ite_f h c6
            refine lv_iinc (v := (x2 + 1)) (lv' := [(2, .int (x2 + 1)), (0, .ref (a 1)), (1, .ref (a 3))]) hx hb dX5_read_54 hl (k := 2) rfl rfl (by decide) rfl (fun ls hl => ?_)
            refine lv_goto (tgt := 21) hx hb dX5_read_57 (by decide) ?_
            exact ih21 _ _ _ h _ _ hP hD hS _ (lv_sub hl [1, 2, 0] rfl)
          · replace h := ite_t h c6
            refine lv_goto (tgt := 60) hx hb dX5_read_51 (by decide) ?_
            exact hk_21 _ _ _ h _ _ hP hD hS _ (lv_sub hl [0] rfl)
        · replace h := ite_t h c4
          refine lv_iload_n hx hb dX5_read_41 rfl (lv_at hl 2 rfl) ?_
          obtain rfl := Option.some.inj h
          exact g_iret hx hb hr hK hP hD hS hQ dX5_read_42
  refine lp21  _ ?_ N _ _ _ h _ _ hP hD hS _ (lv_sub hl [1, 2, 0] rfl)
  intro x2 I_21 A_21 h H locs hP hD hS ls hl
  refine lv_bipush (v := (-10)) hx hb dX5_read_60 (by decide) ?_
  refine lv_aload_n hx hb dX5_read_62 rfl (lv_at hl 0 rfl) ?_
  refine va_get (D := (dC, dI)) (ci := 5) (v := .int (I_21 2)) (C := RX5) (T := TX5) (N := 8) hx hb hts inX5_read_X5 hown hK hP 1 (eC_1 a cy I_21 A_21 T) rfl 3 (by decide) (hts _ mX5_read_3) (fun _ h9 => h9) rfl dX5_read_63 ?_
  refine lv_isub hx hb dX5_read_66 ?_
  obtain rfl := Option.some.inj h
  exact g_iret hx hb hr hK hP hD hS hQ dX5_read_67
theorem inX6_become_X6 : ∀ w ∈ u_ws RX6 TX6 6, w ∈ wsX6_become := by decide +kernel
theorem mX6_become_0 : Cond.fieldLink RX6 24 "WarmBottles$Told" "bottles" "I" ∈ wsX6_become := List.mem_of_getElem? (i := 1) rfl
theorem mX6_become_1 : Cond.fieldLink RX6 28 "WarmBottles$Told" "kettle" "I" ∈ wsX6_become := List.mem_of_getElem? (i := 2) rfl
theorem mX6_become_2 : Cond.fieldLink RX6 31 "WarmBottles$Told" "pint" "I" ∈ wsX6_become := List.mem_of_getElem? (i := 3) rfl
theorem mX6_become_3 : Cond.fieldLink RX6 9 "WarmBottles$Told" "warm" "[I" ∈ wsX6_become := List.mem_of_getElem? (i := 4) rfl
theorem mX6_become_4 : Cond.methodLink RX6 34 arraycopyName ∈ wsX6_become := List.mem_of_getElem? (i := 5) rfl
theorem mX6_become_5 : Cond.native arraycopyName ∈ wsX6_become := List.mem_of_getElem? (i := 6) rfl
theorem mX6_become_6 : Cond.static arraycopyName ∈ wsX6_become := List.mem_of_getElem? (i := 7) rfl
theorem mX6_become_7 : Cond.initialized "java/lang/System" ∈ wsX6_become := List.mem_of_getElem? (i := 8) rfl
theorem mX6_become_8 : Cond.fieldLink RX6 15 "WarmBottles$Told" "cools" "[I" ∈ wsX6_become := List.mem_of_getElem? (i := 9) rfl
theorem mX6_become_9 : Cond.fieldLink RX6 18 "WarmBottles$Told" "speaks" "[I" ∈ wsX6_become := List.mem_of_getElem? (i := 10) rfl
def rm_X6_become_C : Room := { frames := 3, cells := 0, slots := 0, locals := 210 }
def f_X6_become_C (N : Nat) (I : Nat → Int32) (A : Nat → Nat → Int32)  : Option ((Nat → Int32) × (Nat → Nat → Int32)) := (if (0 : Int32) < 0 ∨ (0 : Int32) < 0 ∨ (6 : Int32) < 0 ∨ 6 < 0 + 6 ∨ 6 < 0 + 6 then none else (if (0 : Int32) < 0 ∨ (0 : Int32) < 0 ∨ (6 : Int32) < 0 ∨ 6 < 0 + 6 ∨ 6 < 0 + 6 then none else (if (0 : Int32) < 0 ∨ (0 : Int32) < 0 ∨ (6 : Int32) < 0 ∨ 6 < 0 + 6 ∨ 6 < 0 + 6 then none else some ((upd (upd (upd I 13 (I 7)) 14 (I 8)) 15 (I 9)), (va_up (va_up (va_up A 4 (va_cpy (A 1) (A 4) 0 0 6)) 5 (va_cpy (A 2) (A 5) 0 0 6)) 6 (va_cpy (A 3) (A 6) 0 0 6))))))
set_option maxHeartbeats 4000000 in
set_option maxRecDepth 100000 in
theorem c_X6_become_C (l : Launch) (dC : Nat → ClassId) (dI : Nat → Nat → Nat) (a : Nat → Nat) (cy : Nat → ClassId) (N : Nat) (I : Nat → Int32) (A : Nat → Nat → Int32) (T : Int64)  (res : (Nat → Int32) × (Nat → Nat → Int32)) (h : f_X6_become_C N I A  = some res) (sz : Nat) : Met l yX6_become wsX6_become rm_X6_become_C (g_Pre (dC, dI) cy [.ref (a 8), .ref (a 3)] (wC a cy I A T) sz) (g_Qv (dC, dI) cy (wC a cy I A T) (wC a cy res.1 res.2 T) sz) 0 0 (va_A (wC a cy I A T) sz) := by
  unfold f_X6_become_C at h
  refine g_entry _ _ _ _ _ _ (cc := cX6_become) (maxL := 2) (ret := none) (by decide) rfl (Nat.le_of_ble_eq_true rfl) ?_
  intro p e s m args below meth c ls hx hb hml hown hts hr hlocks hA hK hP hD hS hl Q hQ
  have hl : lv_has ls 2 [(0, .ref (a 8)), (1, .ref (a 3))] := hl
  have hown : s.vm.findClass RX6 = some m.cls := hown
  refine lv_aload_n hx hb dX6_become_0 rfl (lv_at hl 0 rfl) ?_
  refine lv_aload_n hx hb dX6_become_1 rfl (lv_at hl 1 rfl) ?_
  refine va_get (D := (dC, dI)) (ci := 6) (v := .int (I 7)) (C := RX6) (T := TX6) (N := 6) hx hb hts inX6_become_X6 hown hK hP 3 (eC_3 a cy I A T) rfl 3 (by decide) (hts _ mX6_become_0) (fun _ h9 => h9) rfl dX6_become_2 ?_
  refine g_put (D := (dC, dI)) (ci := 6) (v := .int (I 7)) (ty := .int) (C := RX6) (T := TX6) (N := 6) hx hb hts inX6_become_X6 tyX6 tyX6_ok nmX6 hown hK hP hD hS 8 (eC_8 a cy I A T) rfl 3 (by decide) (hts _ mX6_become_0) (fun _ h9 => h9) rfl (by decide +kernel) rfl rfl (Nat.le_of_ble_eq_true rfl) dX6_become_5 (pC_8_3 a cy I A T (I 7)) (fun H locs hP hD hS => ?_)
  refine lv_aload_n hx hb dX6_become_8 rfl (lv_at hl 0 rfl) ?_
  refine lv_aload_n hx hb dX6_become_9 rfl (lv_at hl 1 rfl) ?_
  refine va_get (D := (dC, dI)) (ci := 6) (v := .int (I 8)) (C := RX6) (T := TX6) (N := 6) hx hb hts inX6_become_X6 hown hK hP 3 (eC_3 a cy (upd I 13 (I 7)) A T) rfl 4 (by decide) (hts _ mX6_become_1) (fun _ h9 => h9) rfl dX6_become_10 ?_
  refine g_put (D := (dC, dI)) (ci := 6) (v := .int (I 8)) (ty := .int) (C := RX6) (T := TX6) (N := 6) hx hb hts inX6_become_X6 tyX6 tyX6_ok nmX6 hown hK hP hD hS 8 (eC_8 a cy (upd I 13 (I 7)) A T) rfl 4 (by decide) (hts _ mX6_become_1) (fun _ h9 => h9) rfl (by decide +kernel) rfl rfl (Nat.le_of_ble_eq_true rfl) dX6_become_13 (pC_8_4 a cy (upd I 13 (I 7)) A T (I 8)) (fun H locs hP hD hS => ?_)
  refine lv_aload_n hx hb dX6_become_16 rfl (lv_at hl 0 rfl) ?_
  refine lv_aload_n hx hb dX6_become_17 rfl (lv_at hl 1 rfl) ?_
  refine va_get (D := (dC, dI)) (ci := 6) (v := .int (I 9)) (C := RX6) (T := TX6) (N := 6) hx hb hts inX6_become_X6 hown hK hP 3 (eC_3 a cy (upd (upd I 13 (I 7)) 14 (I 8)) A T) rfl 5 (by decide) (hts _ mX6_become_2) (fun _ h9 => h9) rfl dX6_become_18 ?_
  refine g_put (D := (dC, dI)) (ci := 6) (v := .int (I 9)) (ty := .int) (C := RX6) (T := TX6) (N := 6) hx hb hts inX6_become_X6 tyX6 tyX6_ok nmX6 hown hK hP hD hS 8 (eC_8 a cy (upd (upd I 13 (I 7)) 14 (I 8)) A T) rfl 5 (by decide) (hts _ mX6_become_2) (fun _ h9 => h9) rfl (by decide +kernel) rfl rfl (Nat.le_of_ble_eq_true rfl) dX6_become_21 (pC_8_5 a cy (upd (upd I 13 (I 7)) 14 (I 8)) A T (I 9)) (fun H locs hP hD hS => ?_)
  refine lv_aload_n hx hb dX6_become_24 rfl (lv_at hl 1 rfl) ?_
  refine va_get (D := (dC, dI)) (ci := 6) (v := .ref (a 4)) (C := RX6) (T := TX6) (N := 6) hx hb hts inX6_become_X6 hown hK hP 3 (eC_3 a cy (upd (upd (upd I 13 (I 7)) 14 (I 8)) 15 (I 9)) A T) rfl 0 (by decide) (hts _ mX6_become_3) (fun _ h9 => h9) rfl dX6_become_25 ?_
  refine lv_iconst (v := 0) hx hb dX6_become_28 (by decide) ?_
  refine lv_aload_n hx hb dX6_become_29 rfl (lv_at hl 0 rfl) ?_
  refine va_get (D := (dC, dI)) (ci := 6) (v := .ref (a 9)) (C := RX6) (T := TX6) (N := 6) hx hb hts inX6_become_X6 hown hK hP 8 (eC_8 a cy (upd (upd (upd I 13 (I 7)) 14 (I 8)) 15 (I 9)) A T) rfl 0 (by decide) (hts _ mX6_become_3) (fun _ h9 => h9) rfl dX6_become_30 ?_
  refine lv_iconst (v := 0) hx hb dX6_become_33 (by decide) ?_
  refine lv_bipush (v := 6) hx hb dX6_become_34 (by decide) ?_
  obtain ⟨y1, h⟩ := cp_some h
  refine g_copyi (f := (A 1)) (g := (A 4)) (js := 0) (jd := 0) (jn := 6) hx hb (hml.trans hl.1.symm) hown (hts _ mX6_become_4) (hts _ mX6_become_5) (hts _ mX6_become_6) (hts _ mX6_become_7) hK hP hD hS 4 9 (eC_4 a cy (upd (upd (upd I 13 (I 7)) 14 (I 8)) 15 (I 9)) A T) (eC_9 a cy (upd (upd (upd I 13 (I 7)) 14 (I 8)) 15 (I 9)) A T) y1 rfl rfl rfl (Nat.le_of_ble_eq_true rfl) (Nat.le_of_ble_eq_true rfl) dX6_become_36 (sC_9 a cy (upd (upd (upd I 13 (I 7)) 14 (I 8)) 15 (I 9)) A T (va_cpy (A 1) (A 4) 0 0 6)) (fun H locs hP hD hS => ?_)
  refine lv_aload_n hx hb dX6_become_39 rfl (lv_at hl 1 rfl) ?_
  refine va_get (D := (dC, dI)) (ci := 6) (v := .ref (a 5)) (C := RX6) (T := TX6) (N := 6) hx hb hts inX6_become_X6 hown hK hP 3 (eC_3 a cy (upd (upd (upd I 13 (I 7)) 14 (I 8)) 15 (I 9)) (va_up A 4 (va_cpy (A 1) (A 4) 0 0 6)) T) rfl 1 (by decide) (hts _ mX6_become_8) (fun _ h9 => h9) rfl dX6_become_40 ?_
  refine lv_iconst (v := 0) hx hb dX6_become_43 (by decide) ?_
  refine lv_aload_n hx hb dX6_become_44 rfl (lv_at hl 0 rfl) ?_
  refine va_get (D := (dC, dI)) (ci := 6) (v := .ref (a 10)) (C := RX6) (T := TX6) (N := 6) hx hb hts inX6_become_X6 hown hK hP 8 (eC_8 a cy (upd (upd (upd I 13 (I 7)) 14 (I 8)) 15 (I 9)) (va_up A 4 (va_cpy (A 1) (A 4) 0 0 6)) T) rfl 1 (by decide) (hts _ mX6_become_8) (fun _ h9 => h9) rfl dX6_become_45 ?_
  refine lv_iconst (v := 0) hx hb dX6_become_48 (by decide) ?_
  refine lv_bipush (v := 6) hx hb dX6_become_49 (by decide) ?_
  obtain ⟨y2, h⟩ := cp_some h
  refine g_copyi (f := (A 2)) (g := (A 5)) (js := 0) (jd := 0) (jn := 6) hx hb (hml.trans hl.1.symm) hown (hts _ mX6_become_4) (hts _ mX6_become_5) (hts _ mX6_become_6) (hts _ mX6_become_7) hK hP hD hS 5 10 (eC_5 a cy (upd (upd (upd I 13 (I 7)) 14 (I 8)) 15 (I 9)) (va_up A 4 (va_cpy (A 1) (A 4) 0 0 6)) T) (eC_10 a cy (upd (upd (upd I 13 (I 7)) 14 (I 8)) 15 (I 9)) (va_up A 4 (va_cpy (A 1) (A 4) 0 0 6)) T) y2 rfl rfl rfl (Nat.le_of_ble_eq_true rfl) (Nat.le_of_ble_eq_true rfl) dX6_become_51 (sC_10 a cy (upd (upd (upd I 13 (I 7)) 14 (I 8)) 15 (I 9)) (va_up A 4 (va_cpy (A 1) (A 4) 0 0 6)) T (va_cpy (A 2) (A 5) 0 0 6)) (fun H locs hP hD hS => ?_)
  refine lv_aload_n hx hb dX6_become_54 rfl (lv_at hl 1 rfl) ?_
  refine va_get (D := (dC, dI)) (ci := 6) (v := .ref (a 6)) (C := RX6) (T := TX6) (N := 6) hx hb hts inX6_become_X6 hown hK hP 3 (eC_3 a cy (upd (upd (upd I 13 (I 7)) 14 (I 8)) 15 (I 9)) (va_up (va_up A 4 (va_cpy (A 1) (A 4) 0 0 6)) 5 (va_cpy (A 2) (A 5) 0 0 6)) T) rfl 2 (by decide) (hts _ mX6_become_9) (fun _ h9 => h9) rfl dX6_become_55 ?_
  refine lv_iconst (v := 0) hx hb dX6_become_58 (by decide) ?_
  refine lv_aload_n hx hb dX6_become_59 rfl (lv_at hl 0 rfl) ?_
  refine va_get (D := (dC, dI)) (ci := 6) (v := .ref (a 11)) (C := RX6) (T := TX6) (N := 6) hx hb hts inX6_become_X6 hown hK hP 8 (eC_8 a cy (upd (upd (upd I 13 (I 7)) 14 (I 8)) 15 (I 9)) (va_up (va_up A 4 (va_cpy (A 1) (A 4) 0 0 6)) 5 (va_cpy (A 2) (A 5) 0 0 6)) T) rfl 2 (by decide) (hts _ mX6_become_9) (fun _ h9 => h9) rfl dX6_become_60 ?_
  refine lv_iconst (v := 0) hx hb dX6_become_63 (by decide) ?_
  refine lv_bipush (v := 6) hx hb dX6_become_64 (by decide) ?_
  obtain ⟨y3, h⟩ := cp_some h
  refine g_copyi (f := (A 3)) (g := (A 6)) (js := 0) (jd := 0) (jn := 6) hx hb (hml.trans hl.1.symm) hown (hts _ mX6_become_4) (hts _ mX6_become_5) (hts _ mX6_become_6) (hts _ mX6_become_7) hK hP hD hS 6 11 (eC_6 a cy (upd (upd (upd I 13 (I 7)) 14 (I 8)) 15 (I 9)) (va_up (va_up A 4 (va_cpy (A 1) (A 4) 0 0 6)) 5 (va_cpy (A 2) (A 5) 0 0 6)) T) (eC_11 a cy (upd (upd (upd I 13 (I 7)) 14 (I 8)) 15 (I 9)) (va_up (va_up A 4 (va_cpy (A 1) (A 4) 0 0 6)) 5 (va_cpy (A 2) (A 5) 0 0 6)) T) y3 rfl rfl rfl (Nat.le_of_ble_eq_true rfl) (Nat.le_of_ble_eq_true rfl) dX6_become_66 (sC_11 a cy (upd (upd (upd I 13 (I 7)) 14 (I 8)) 15 (I 9)) (va_up (va_up A 4 (va_cpy (A 1) (A 4) 0 0 6)) 5 (va_cpy (A 2) (A 5) 0 0 6)) T (va_cpy (A 3) (A 6) 0 0 6)) (fun H locs hP hD hS => ?_)
  obtain rfl := Option.some.inj h
  exact g_vret hx hb hr hK hP hD hS hQ dX6_become_69
def rm_X3_begin_C : Room := { frames := 3, cells := 0, slots := 0, locals := 210 }
def f_X3_begin_C_L23 (N : Nat) (k_23 : Int32 → (Nat → Nat → Int32) → Option ((Nat → Int32) × (Nat → Nat → Int32))) (I_23 : (Nat → Int32)) : Nat → Int32 → (Nat → Nat → Int32) → Option ((Nat → Int32) × (Nat → Nat → Int32))
  | 0, _, _ => none
  | n_23 + 1, x1, A_23 => (if 6 ≤ x1 then (k_23 x1 A_23) else (if x1 < 0 ∨ 6 ≤ x1.toNatClampNeg then none else (f_X3_begin_C_L23 N k_23 I_23 n_23 (x1 + 1) (va_up (va_up A_23 7 (upd (A_23 7) x1.toNatClampNeg ((A_23 4) x1.toNatClampNeg))) 8 (upd (A_23 8) x1.toNatClampNeg x1)))))
def f_X3_begin_C (N : Nat) (I : Nat → Int32) (A : Nat → Nat → Int32)  : Option ((Nat → Int32) × (Nat → Nat → Int32)) := (f_X3_begin_C_L23 N (fun (x1 : Int32) (A_23 : (Nat → Nat → Int32)) => some ((upd (upd (upd I 10 0) 11 0) 12 (I 14)), A_23)) (upd (upd (upd I 10 0) 11 0) 12 (I 14)) N 0 A)
set_option maxHeartbeats 4000000 in
set_option maxRecDepth 100000 in
theorem c_X3_begin_C (l : Launch) (dC : Nat → ClassId) (dI : Nat → Nat → Nat) (a : Nat → Nat) (cy : Nat → ClassId) (N : Nat) (I : Nat → Int32) (A : Nat → Nat → Int32) (T : Int64)  (res : (Nat → Int32) × (Nat → Nat → Int32)) (h : f_X3_begin_C N I A  = some res) (sz : Nat) : Met l yX3_begin wsX3_begin rm_X3_begin_C (g_Pre (dC, dI) cy [.ref (a 7)] (wC a cy I A T) sz) (g_Qv (dC, dI) cy (wC a cy I A T) (wC a cy res.1 res.2 T) sz) 0 0 (va_A (wC a cy I A T) sz) := by
  unfold f_X3_begin_C at h
  refine g_entry _ _ _ _ _ _ (cc := cX3_begin) (maxL := 2) (ret := none) (by decide) rfl (Nat.le_of_ble_eq_true rfl) ?_
  intro p e s m args below meth c ls hx hb hml hown hts hr hlocks hA hK hP hD hS hl Q hQ
  have hl : lv_has ls 2 [(0, .ref (a 7))] := hl
  have hown : s.vm.findClass RX3 = some m.cls := hown
  refine lv_aload_n hx hb dX3_begin_0 rfl (lv_at hl 0 rfl) ?_
  refine lv_iconst (v := 0) hx hb dX3_begin_1 (by decide) ?_
  refine g_put (D := (dC, dI)) (ci := 3) (v := .int 0) (ty := .int) (C := RX3) (T := TX3) (N := 6) hx hb hts inX3_begin_X3 tyX3 tyX3_ok nmX3 hown hK hP hD hS 7 (eC_7 a cy I A T) rfl 3 (by decide) (hts _ mX3_begin_0) (fun _ h9 => h9) rfl (by decide +kernel) rfl rfl (Nat.le_of_ble_eq_true rfl) dX3_begin_2 (pC_7_3 a cy I A T 0) (fun H locs hP hD hS => ?_)
  refine lv_aload_n hx hb dX3_begin_5 rfl (lv_at hl 0 rfl) ?_
  refine lv_iconst (v := 0) hx hb dX3_begin_6 (by decide) ?_
  refine g_put (D := (dC, dI)) (ci := 3) (v := .int 0) (ty := .int) (C := RX3) (T := TX3) (N := 6) hx hb hts inX3_begin_X3 tyX3 tyX3_ok nmX3 hown hK hP hD hS 7 (eC_7 a cy (upd I 10 0) A T) rfl 4 (by decide) (hts _ mX3_begin_1) (fun _ h9 => h9) rfl (by decide +kernel) rfl rfl (Nat.le_of_ble_eq_true rfl) dX3_begin_7 (pC_7_4 a cy (upd I 10 0) A T 0) (fun H locs hP hD hS => ?_)
  refine lv_aload_n hx hb dX3_begin_10 rfl (lv_at hl 0 rfl) ?_
  refine lv_aload_n hx hb dX3_begin_11 rfl (lv_at hl 0 rfl) ?_
  refine va_get (D := (dC, dI)) (ci := 3) (v := .ref (a 8)) (C := RX3) (T := TX3) (N := 6) hx hb hts inX3_begin_X3 hown hK hP 7 (eC_7 a cy (upd (upd I 10 0) 11 0) A T) rfl 0 (by decide) (hts _ mX3_begin_2) (fun _ h9 => h9) rfl dX3_begin_12 ?_
  refine va_get (D := (dC, dI)) (ci := 6) (v := .int (I 14)) (C := RX6) (T := TX6) (N := 6) hx hb hts inX3_begin_X6 hown hK hP 8 (eC_8 a cy (upd (upd I 10 0) 11 0) A T) rfl 4 (by decide) (hts _ mX3_begin_3) (fun _ h9 => h9) rfl dX3_begin_15 ?_
  refine g_put (D := (dC, dI)) (ci := 3) (v := .int (I 14)) (ty := .int) (C := RX3) (T := TX3) (N := 6) hx hb hts inX3_begin_X3 tyX3 tyX3_ok nmX3 hown hK hP hD hS 7 (eC_7 a cy (upd (upd I 10 0) 11 0) A T) rfl 5 (by decide) (hts _ mX3_begin_4) (fun _ h9 => h9) rfl (by decide +kernel) rfl rfl (Nat.le_of_ble_eq_true rfl) dX3_begin_18 (pC_7_5 a cy (upd (upd I 10 0) 11 0) A T (I 14)) (fun H locs hP hD hS => ?_)
  refine lv_iconst (v := 0) hx hb dX3_begin_21 (by decide) ?_
  refine lv_istore_n (lv' := [(1, .int 0), (0, .ref (a 7))]) hx hb dX3_begin_22 rfl hl (by decide) rfl (fun ls hl => ?_)
  have lp23 : ∀ (I_23 : (Nat → Int32)) (k_23 : Int32 → (Nat → Nat → Int32) → Option ((Nat → Int32) × (Nat → Nat → Int32))), (∀ (x1 : Int32) (A_23 : (Nat → Nat → Int32)), k_23 x1 A_23 = some res → g_At (dC, dI) p l e (headSpec wsX3_begin rm_X3_begin_C).room s m args below meth c Q (wC a cy I A T) sz 2 (wC a cy I_23 A_23 T) [] 57 []) → ∀ (n_23 : Nat) (x1 : Int32) (A_23 : (Nat → Nat → Int32)), f_X3_begin_C_L23 N k_23 I_23 n_23 x1 A_23 = some res → g_At (dC, dI) p l e (headSpec wsX3_begin rm_X3_begin_C).room s m args below meth c Q (wC a cy I A T) sz 2 (wC a cy I_23 A_23 T) [(0, .ref (a 7)), (1, .int x1)] 23 [] := by
    intro I_23 k_23 hk_23 n_23
    induction n_23 with
    | zero =>
      intro x1 A_23 h
      exact absurd h (by rw [f_X3_begin_C_L23]; exact fun q => by cases q)
    | succ n_23 ih23 =>
      intro x1 A_23 h H locs hP hD hS ls hl
      rw [f_X3_begin_C_L23] at h
      refine lv_iload_n hx hb dX3_begin_23 rfl (lv_at hl 1 rfl) ?_
      refine lv_bipush (v := 6) hx hb dX3_begin_24 (by decide) ?_
      refine lv_icmp_ge (tgt := 57) hx hb dX3_begin_26 (by decide) (fun c1 => ?_) (fun c1 => ?_)
      · replace h := ite_t h c1
        exact hk_23 _ _ h _ _ hP hD hS _ (lv_sub hl [] rfl)
      · replace h := ite_f h c1
        refine lv_aload_n hx hb dX3_begin_29 rfl (lv_at hl 0 rfl) ?_
        refine va_get (D := (dC, dI)) (ci := 3) (v := .ref (a 12)) (C := RX3) (T := TX3) (N := 6) hx hb hts inX3_begin_X3 hown hK hP 7 (eC_7 a cy I_23 A_23 T) rfl 1 (by decide) (hts _ mX3_begin_5) (fun _ h9 => h9) rfl dX3_begin_30 ?_
        refine lv_iload_n hx hb dX3_begin_33 rfl (lv_at hl 1 rfl) ?_
        refine lv_aload_n hx hb dX3_begin_34 rfl (lv_at hl 0 rfl) ?_
        refine va_get (D := (dC, dI)) (ci := 3) (v := .ref (a 8)) (C := RX3) (T := TX3) (N := 6) hx hb hts inX3_begin_X3 hown hK hP 7 (eC_7 a cy I_23 A_23 T) rfl 0 (by decide) (hts _ mX3_begin_2) (fun _ h9 => h9) rfl dX3_begin_35 ?_
        refine va_get (D := (dC, dI)) (ci := 6) (v := .ref (a 9)) (C := RX6) (T := TX6) (N := 6) hx hb hts inX3_begin_X6 hown hK hP 8 (eC_8 a cy I_23 A_23 T) rfl 0 (by decide) (hts _ mX3_begin_6) (fun _ h9 => h9) rfl dX3_begin_38 ?_
        refine lv_iload_n hx hb dX3_begin_41 rfl (lv_at hl 1 rfl) ?_
        obtain ⟨i2, h⟩ := inb_some h
        refine g_iald (f := (A_23 4)) (j := x1.toNatClampNeg) hx hb hK hP 9 (eC_9 a cy I_23 A_23 T) i2 rfl dX3_begin_42 ?_
        refine g_iast (f := (A_23 7)) (j := x1.toNatClampNeg) hx hb hK hP hD hS 12 (eC_12 a cy I_23 A_23 T) i2 rfl dX3_begin_43 (sC_12 a cy I_23 A_23 T (upd (A_23 7) x1.toNatClampNeg ((A_23 4) x1.toNatClampNeg))) (fun H locs hP hD hS => ?_)
        refine lv_aload_n hx hb dX3_begin_44 rfl (lv_at hl 0 rfl) ?_
        refine va_get (D := (dC, dI)) (ci := 3) (v := .ref (a 13)) (C := RX3) (T := TX3) (N := 6) hx hb hts inX3_begin_X3 hown hK hP 7 (eC_7 a cy I_23 (va_up A_23 7 (upd (A_23 7) x1.toNatClampNeg ((A_23 4) x1.toNatClampNeg))) T) rfl 2 (by decide) (hts _ mX3_begin_7) (fun _ h9 => h9) rfl dX3_begin_45 ?_
        refine lv_iload_n hx hb dX3_begin_48 rfl (lv_at hl 1 rfl) ?_
        refine lv_iload_n hx hb dX3_begin_49 rfl (lv_at hl 1 rfl) ?_
        refine g_iast (f := (A_23 8)) (j := x1.toNatClampNeg) hx hb hK hP hD hS 13 (eC_13 a cy I_23 (va_up A_23 7 (upd (A_23 7) x1.toNatClampNeg ((A_23 4) x1.toNatClampNeg))) T) i2 rfl dX3_begin_50 (sC_13 a cy I_23 (va_up A_23 7 (upd (A_23 7) x1.toNatClampNeg ((A_23 4) x1.toNatClampNeg))) T (upd (A_23 8) x1.toNatClampNeg x1)) (fun H locs hP hD hS => ?_)
        refine lv_iinc (v := (x1 + 1)) (lv' := [(1, .int (x1 + 1)), (0, .ref (a 7))]) hx hb dX3_begin_51 hl (k := 1) rfl rfl (by decide) rfl (fun ls hl => ?_)
        refine lv_goto (tgt := 23) hx hb dX3_begin_54 (by decide) ?_
        exact ih23 _ _ h _ _ hP hD hS _ (lv_sub hl [1, 0] rfl)
  refine lp23 _ _ ?_ N _ _ h _ _ hP hD hS _ (lv_sub hl [1, 0] rfl)
  intro x1 A_23 h H locs hP hD hS ls hl
  obtain rfl := Option.some.inj h
  exact g_vret hx hb hr hK hP hD hS hQ dX3_begin_57
