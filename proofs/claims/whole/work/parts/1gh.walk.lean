theorem inX7_hears_X7 : ∀ w ∈ u_ws RX7 TX7 9, w ∈ wsX7_hears := by decide +kernel
theorem mX7_hears_0 : Cond.fieldLink RX7 53 "WarmBottles" "heard" "LWarmBottles$Heard;" ∈ wsX7_hears := List.mem_of_getElem? (i := 1) rfl
theorem inX7_hears_X1 : ∀ w ∈ u_ws RX1 TX1 3, w ∈ wsX7_hears := by decide +kernel
theorem mX7_hears_1 : Cond.fieldLink RX7 89 "WarmBottles$Heard" "number" "I" ∈ wsX7_hears := List.mem_of_getElem? (i := 2) rfl
def rm_X7_hears_C : Room := { frames := 5, cells := 0, slots := 0, locals := 270 }
def f_X7_hears_C (N : Nat) (I : Nat → Int32) (A : Nat → Nat → Int32) (p1 : Int32) (p2 : Int32) : Option (Int32 × (Nat → Int32) × (Nat → Nat → Int32)) := (if p1 < 0 then some ((-1), I, A) else (if 9 < p1 then some ((-1), I, A) else (if p2 < 0 then some ((-1), I, A) else (if p2 ≤ 2 then (if (I 18) < 6 then (Option.bind (f_X1_add_C N I A p1 p2) (fun r6 => some ((r6.1 18), r6.1, r6.2))) else some ((-3), I, A)) else some ((-1), I, A)))))
set_option maxHeartbeats 4000000 in
set_option maxRecDepth 100000 in
theorem c_X7_hears_C (l : Launch) (dC : Nat → ClassId) (dI : Nat → Nat → Nat) (a : Nat → Nat) (cy : Nat → ClassId) (N : Nat) (I : Nat → Int32) (A : Nat → Nat → Int32) (T : Int64) (p1 : Int32) (p2 : Int32) (res : Int32 × (Nat → Int32) × (Nat → Nat → Int32)) (h : f_X7_hears_C N I A p1 p2 = some res) (sz : Nat) : Met l yX7_hears wsX7_hears rm_X7_hears_C (g_Pre (dC, dI) cy [.ref (a 0), .int p1, .int p2] (wC a cy I A T) sz) (g_Qi (dC, dI) cy res.1 (wC a cy I A T) (wC a cy res.2.1 res.2.2 T) sz) 0 0 (va_A (wC a cy I A T) sz) := by
  unfold f_X7_hears_C at h
  refine g_entry _ _ _ _ _ _ (cc := cX7_hears) (maxL := 3) (ret := (some .int)) (by decide) rfl (Nat.le_of_ble_eq_true rfl) ?_
  intro p e s m args below meth c ls hx hb hml hown hts hr hlocks hA hK hP hD hS hl Q hQ
  have hl : lv_has ls 3 [(0, .ref (a 0)), (1, .int p1), (2, .int p2)] := hl
  have hown : s.vm.findClass RX7 = some m.cls := hown
  refine lv_iload_n hx hb dX7_hears_0 rfl (lv_at hl 1 rfl) ?_
  refine lv_if_lt (tgt := 19) hx hb dX7_hears_1 (by decide) (fun c1 => ?_) (fun c1 => ?_)
  · replace h := ite_t h c1
    refine lv_iconst (v := (-1)) hx hb dX7_hears_19 (by decide) ?_
    obtain rfl := Option.some.inj h
    exact g_iret hx hb hr hK hP hD hS hQ dX7_hears_20
  · replace h := ite_f h c1
    refine lv_iload_n hx hb dX7_hears_4 rfl (lv_at hl 1 rfl) ?_
    refine lv_bipush (v := 9) hx hb dX7_hears_5 (by decide) ?_
    refine lv_icmp_gt (tgt := 19) hx hb dX7_hears_7 (by decide) (fun c2 => ?_) (fun c2 => ?_)
    · replace h := ite_t h c2
      refine lv_iconst (v := (-1)) hx hb dX7_hears_19 (by decide) ?_
      obtain rfl := Option.some.inj h
      exact g_iret hx hb hr hK hP hD hS hQ dX7_hears_20
    · replace h := ite_f h c2
      refine lv_iload_n hx hb dX7_hears_10 rfl (lv_at hl 2 rfl) ?_
      refine lv_if_lt (tgt := 19) hx hb dX7_hears_11 (by decide) (fun c3 => ?_) (fun c3 => ?_)
      · replace h := ite_t h c3
        refine lv_iconst (v := (-1)) hx hb dX7_hears_19 (by decide) ?_
        obtain rfl := Option.some.inj h
        exact g_iret hx hb hr hK hP hD hS hQ dX7_hears_20
      · replace h := ite_f h c3
        refine lv_iload_n hx hb dX7_hears_14 rfl (lv_at hl 2 rfl) ?_
        refine lv_iconst (v := 2) hx hb dX7_hears_15 (by decide) ?_
        refine lv_icmp_le (tgt := 21) hx hb dX7_hears_16 (by decide) (fun c4 => ?_) (fun c4 => ?_)
        · replace h := ite_t h c4
          refine lv_aload_n hx hb dX7_hears_21 rfl (lv_at hl 0 rfl) ?_
          refine va_get (D := (dC, dI)) (ci := 7) (v := .ref (a 20)) (C := RX7) (T := TX7) (N := 9) hx hb hts inX7_hears_X7 hown hK hP 0 (eC_0 a cy I A T) rfl 6 (by decide) (hts _ mX7_hears_0) (fun _ h9 => h9) rfl dX7_hears_22 ?_
          refine va_get (D := (dC, dI)) (ci := 1) (v := .int (I 18)) (C := RX1) (T := TX1) (N := 3) hx hb hts inX7_hears_X1 hown hK hP 20 (eC_20 a cy I A T) rfl 2 (by decide) (hts _ mX7_hears_1) (fun _ h9 => h9) rfl dX7_hears_25 ?_
          refine lv_bipush (v := 6) hx hb dX7_hears_28 (by decide) ?_
          refine lv_icmp_lt (tgt := 36) hx hb dX7_hears_30 (by decide) (fun c5 => ?_) (fun c5 => ?_)
          · replace h := ite_t h c5
            refine lv_aload_n hx hb dX7_hears_36 rfl (lv_at hl 0 rfl) ?_
            refine va_get (D := (dC, dI)) (ci := 7) (v := .ref (a 20)) (C := RX7) (T := TX7) (N := 9) hx hb hts inX7_hears_X7 hown hK hP 0 (eC_0 a cy I A T) rfl 6 (by decide) (hts _ mX7_hears_0) (fun _ h9 => h9) rfl dX7_hears_37 ?_
            refine lv_iload_n hx hb dX7_hears_40 rfl (lv_at hl 1 rfl) ?_
            refine lv_iload_n hx hb dX7_hears_41 rfl (lv_at hl 2 rfl) ?_
            obtain ⟨r6, hr6, h⟩ := bnd_some h
            refine g_callVv (As := [.int p1, .int p2]) (rest := []) (ci := 1) (q0 := 20) hx hb hml hown hts (c_X1_add_C l dC dI a cy N I A T p1 p2 r6 hr6) (cwV 2 hts gX7_hears_X1_add rfl rfl rfl (by decide +kernel) ⟨Nat.le_of_ble_eq_true rfl, Nat.le_of_ble_eq_true rfl⟩) hK hP hD hS hA rfl (eC_20 a cy I A T) rfl rfl hl.1 rfl (Nat.le_of_ble_eq_true rfl) dX7_hears_42 (fun H locs hP hD hS => ?_)
            refine lv_aload_n hx hb dX7_hears_45 rfl (lv_at hl 0 rfl) ?_
            refine va_get (D := (dC, dI)) (ci := 7) (v := .ref (a 20)) (C := RX7) (T := TX7) (N := 9) hx hb hts inX7_hears_X7 hown hK hP 0 (eC_0 a cy r6.1 r6.2 T) rfl 6 (by decide) (hts _ mX7_hears_0) (fun _ h9 => h9) rfl dX7_hears_46 ?_
            refine va_get (D := (dC, dI)) (ci := 1) (v := .int (r6.1 18)) (C := RX1) (T := TX1) (N := 3) hx hb hts inX7_hears_X1 hown hK hP 20 (eC_20 a cy r6.1 r6.2 T) rfl 2 (by decide) (hts _ mX7_hears_1) (fun _ h9 => h9) rfl dX7_hears_49 ?_
            obtain rfl := Option.some.inj h
            exact g_iret hx hb hr hK hP hD hS hQ dX7_hears_52
          · replace h := ite_f h c5
            refine lv_bipush (v := (-3)) hx hb dX7_hears_33 (by decide) ?_
            obtain rfl := Option.some.inj h
            exact g_iret hx hb hr hK hP hD hS hQ dX7_hears_35
        · replace h := ite_f h c4
          refine lv_iconst (v := (-1)) hx hb dX7_hears_19 (by decide) ?_
          obtain rfl := Option.some.inj h
          exact g_iret hx hb hr hK hP hD hS hQ dX7_hears_20
