theorem inX1_add_X1 : ∀ w ∈ u_ws RX1 TX1 3, w ∈ wsX1_add := by decide +kernel
theorem mX1_add_0 : Cond.fieldLink RX1 18 "WarmBottles$Heard" "number" "I" ∈ wsX1_add := List.mem_of_getElem? (i := 1) rfl
theorem mX1_add_1 : Cond.fieldLink RX1 9 "WarmBottles$Heard" "hours" "[I" ∈ wsX1_add := List.mem_of_getElem? (i := 2) rfl
theorem mX1_add_2 : Cond.fieldLink RX1 15 "WarmBottles$Heard" "sounds" "[I" ∈ wsX1_add := List.mem_of_getElem? (i := 3) rfl
def rm_X1_add_C : Room := { frames := 3, cells := 0, slots := 0, locals := 210 }
def f_X1_add_C (N : Nat) (I : Nat → Int32) (A : Nat → Nat → Int32) (p1 : Int32) (p2 : Int32) : Option ((Nat → Int32) × (Nat → Nat → Int32)) := (if 6 ≤ (I 18) then some (I, A) else (if (I 18) < 0 ∨ 6 ≤ ((I 18)).toNatClampNeg then none else some ((upd I 18 ((I 18) + 1)), (va_up (va_up A 12 (upd (A 12) ((I 18)).toNatClampNeg p1)) 13 (upd (A 13) ((I 18)).toNatClampNeg p2)))))
set_option maxHeartbeats 4000000 in
set_option maxRecDepth 100000 in
theorem c_X1_add_C (l : Launch) (dC : Nat → ClassId) (dI : Nat → Nat → Nat) (a : Nat → Nat) (cy : Nat → ClassId) (N : Nat) (I : Nat → Int32) (A : Nat → Nat → Int32) (T : Int64) (p1 : Int32) (p2 : Int32) (res : (Nat → Int32) × (Nat → Nat → Int32)) (h : f_X1_add_C N I A p1 p2 = some res) (sz : Nat) : Met l yX1_add wsX1_add rm_X1_add_C (g_Pre (dC, dI) cy [.ref (a 20), .int p1, .int p2] (wC a cy I A T) sz) (g_Qv (dC, dI) cy (wC a cy I A T) (wC a cy res.1 res.2 T) sz) 0 0 (va_A (wC a cy I A T) sz) := by
  unfold f_X1_add_C at h
  refine g_entry _ _ _ _ _ _ (cc := cX1_add) (maxL := 3) (ret := none) (by decide) rfl (Nat.le_of_ble_eq_true rfl) ?_
  intro p e s m args below meth c ls hx hb hml hown hts hr hlocks hA hK hP hD hS hl Q hQ
  have hl : lv_has ls 3 [(0, .ref (a 20)), (1, .int p1), (2, .int p2)] := hl
  have hown : s.vm.findClass RX1 = some m.cls := hown
  refine lv_aload_n hx hb dX1_add_0 rfl (lv_at hl 0 rfl) ?_
  refine va_get (D := (dC, dI)) (ci := 1) (v := .int (I 18)) (C := RX1) (T := TX1) (N := 3) hx hb hts inX1_add_X1 hown hK hP 20 (eC_20 a cy I A T) rfl 2 (by decide) (hts _ mX1_add_0) (fun _ h9 => h9) rfl dX1_add_1 ?_
  refine lv_bipush (v := 6) hx hb dX1_add_4 (by decide) ?_
  refine lv_icmp_ge (tgt := 39) hx hb dX1_add_6 (by decide) (fun c1 => ?_) (fun c1 => ?_)
  · replace h := ite_t h c1
    obtain rfl := Option.some.inj h
    exact g_vret hx hb hr hK hP hD hS hQ dX1_add_39
  · replace h := ite_f h c1
    refine lv_aload_n hx hb dX1_add_9 rfl (lv_at hl 0 rfl) ?_
    refine va_get (D := (dC, dI)) (ci := 1) (v := .ref (a 21)) (C := RX1) (T := TX1) (N := 3) hx hb hts inX1_add_X1 hown hK hP 20 (eC_20 a cy I A T) rfl 0 (by decide) (hts _ mX1_add_1) (fun _ h9 => h9) rfl dX1_add_10 ?_
    refine lv_aload_n hx hb dX1_add_13 rfl (lv_at hl 0 rfl) ?_
    refine va_get (D := (dC, dI)) (ci := 1) (v := .int (I 18)) (C := RX1) (T := TX1) (N := 3) hx hb hts inX1_add_X1 hown hK hP 20 (eC_20 a cy I A T) rfl 2 (by decide) (hts _ mX1_add_0) (fun _ h9 => h9) rfl dX1_add_14 ?_
    refine lv_iload_n hx hb dX1_add_17 rfl (lv_at hl 1 rfl) ?_
    obtain ⟨i2, h⟩ := inb_some h
    refine g_iast (f := (A 12)) (j := ((I 18)).toNatClampNeg) hx hb hK hP hD hS 21 (eC_21 a cy I A T) i2 rfl dX1_add_18 (sC_21 a cy I A T (upd (A 12) ((I 18)).toNatClampNeg p1)) (fun H locs hP hD hS => ?_)
    refine lv_aload_n hx hb dX1_add_19 rfl (lv_at hl 0 rfl) ?_
    refine va_get (D := (dC, dI)) (ci := 1) (v := .ref (a 22)) (C := RX1) (T := TX1) (N := 3) hx hb hts inX1_add_X1 hown hK hP 20 (eC_20 a cy I (va_up A 12 (upd (A 12) ((I 18)).toNatClampNeg p1)) T) rfl 1 (by decide) (hts _ mX1_add_2) (fun _ h9 => h9) rfl dX1_add_20 ?_
    refine lv_aload_n hx hb dX1_add_23 rfl (lv_at hl 0 rfl) ?_
    refine va_get (D := (dC, dI)) (ci := 1) (v := .int (I 18)) (C := RX1) (T := TX1) (N := 3) hx hb hts inX1_add_X1 hown hK hP 20 (eC_20 a cy I (va_up A 12 (upd (A 12) ((I 18)).toNatClampNeg p1)) T) rfl 2 (by decide) (hts _ mX1_add_0) (fun _ h9 => h9) rfl dX1_add_24 ?_
    refine lv_iload_n hx hb dX1_add_27 rfl (lv_at hl 2 rfl) ?_
    refine g_iast (f := (A 13)) (j := ((I 18)).toNatClampNeg) hx hb hK hP hD hS 22 (eC_22 a cy I (va_up A 12 (upd (A 12) ((I 18)).toNatClampNeg p1)) T) i2 rfl dX1_add_28 (sC_22 a cy I (va_up A 12 (upd (A 12) ((I 18)).toNatClampNeg p1)) T (upd (A 13) ((I 18)).toNatClampNeg p2)) (fun H locs hP hD hS => ?_)
    refine lv_aload_n hx hb dX1_add_29 rfl (lv_at hl 0 rfl) ?_
    refine lv_dup hx hb dX1_add_30 rfl ?_
    refine va_get (D := (dC, dI)) (ci := 1) (v := .int (I 18)) (C := RX1) (T := TX1) (N := 3) hx hb hts inX1_add_X1 hown hK hP 20 (eC_20 a cy I (va_up (va_up A 12 (upd (A 12) ((I 18)).toNatClampNeg p1)) 13 (upd (A 13) ((I 18)).toNatClampNeg p2)) T) rfl 2 (by decide) (hts _ mX1_add_0) (fun _ h9 => h9) rfl dX1_add_31 ?_
    refine lv_iconst (v := 1) hx hb dX1_add_34 (by decide) ?_
    refine lv_iadd hx hb dX1_add_35 ?_
    refine g_put (D := (dC, dI)) (ci := 1) (v := .int ((I 18) + 1)) (ty := .int) (C := RX1) (T := TX1) (N := 3) hx hb hts inX1_add_X1 tyX1 tyX1_ok nmX1 hown hK hP hD hS 20 (eC_20 a cy I (va_up (va_up A 12 (upd (A 12) ((I 18)).toNatClampNeg p1)) 13 (upd (A 13) ((I 18)).toNatClampNeg p2)) T) rfl 2 (by decide) (hts _ mX1_add_0) (fun _ h9 => h9) rfl (by decide +kernel) rfl rfl (Nat.le_of_ble_eq_true rfl) dX1_add_36 (pC_20_2 a cy I (va_up (va_up A 12 (upd (A 12) ((I 18)).toNatClampNeg p1)) 13 (upd (A 13) ((I 18)).toNatClampNeg p2)) T ((I 18) + 1)) (fun H locs hP hD hS => ?_)
    obtain rfl := Option.some.inj h
    exact g_vret hx hb hr hK hP hD hS hQ dX1_add_39
