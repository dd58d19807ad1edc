theorem inX7_asStoker_X7 : ∀ w ∈ u_ws RX7 TX7 9, w ∈ wsX7_asStoker := by decide +kernel
theorem mX7_asStoker_0 : Cond.fieldLink RX7 209 "WarmBottles" "trace" "J" ∈ wsX7_asStoker := List.mem_of_getElem? (i := 1) rfl
theorem mX7_asStoker_1 : Cond.constantLong RX7 219 (10000) ∈ wsX7_asStoker := List.mem_of_getElem? (i := 2) rfl
def rm_X7_asStoker_C : Room := { frames := 7, cells := 0, slots := 0, locals := 330 }
def f_X7_asStoker_C (N : Nat) (I : Nat → Int32) (A : Nat → Nat → Int32) (T : Int64) (p1 : Int32) : Option (Int32 × Int64) := (Option.bind (f_X7_asCook_C N I A (T + 10000) p1) (fun r1 => some ((r1.1 + p1), r1.2)))
set_option maxHeartbeats 4000000 in
set_option maxRecDepth 100000 in
theorem c_X7_asStoker_C (l : Launch) (dC : Nat → ClassId) (dI : Nat → Nat → Nat) (a : Nat → Nat) (cy : Nat → ClassId) (N : Nat) (I : Nat → Int32) (A : Nat → Nat → Int32) (T : Int64) (p1 : Int32) (res : Int32 × Int64) (h : f_X7_asStoker_C N I A T p1 = some res) (sz : Nat) : Met l yX7_asStoker wsX7_asStoker rm_X7_asStoker_C (g_Pre (dC, dI) cy [.ref (a 0), .int p1] (wC a cy I A T) sz) (g_Qi (dC, dI) cy res.1 (wC a cy I A T) (wC a cy I A res.2) sz) 0 0 (va_A (wC a cy I A T) sz) := by
  unfold f_X7_asStoker_C at h
  refine g_entry _ _ _ _ _ _ (cc := cX7_asStoker) (maxL := 2) (ret := (some .int)) (by decide) rfl (Nat.le_of_ble_eq_true rfl) ?_
  intro p e s m args below meth c ls hx hb hml hown hts hr hlocks hA hK hP hD hS hl Q hQ
  have hl : lv_has ls 2 [(0, .ref (a 0)), (1, .int p1)] := hl
  have hown : s.vm.findClass RX7 = some m.cls := hown
  refine lv_aload_n hx hb dX7_asStoker_0 rfl (lv_at hl 0 rfl) ?_
  refine lv_dup hx hb dX7_asStoker_1 rfl ?_
  refine va_get (D := (dC, dI)) (ci := 7) (v := .long T) (C := RX7) (T := TX7) (N := 9) hx hb hts inX7_asStoker_X7 hown hK hP 0 (eC_0 a cy I A T) rfl 8 (by decide) (hts _ mX7_asStoker_0) (fun _ h9 => h9) rfl dX7_asStoker_2 ?_
  refine lv_ldc2 (v := 10000) hx hb hown (hts _ mX7_asStoker_1) dX7_asStoker_5 ?_
  refine lv_ladd hx hb dX7_asStoker_8 ?_
  refine g_put (D := (dC, dI)) (ci := 7) (v := .long (T + 10000)) (ty := .long) (C := RX7) (T := TX7) (N := 9) hx hb hts inX7_asStoker_X7 tyX7 tyX7_ok nmX7 hown hK hP hD hS 0 (eC_0 a cy I A T) rfl 8 (by decide) (hts _ mX7_asStoker_0) (fun _ h9 => h9) rfl (by decide +kernel) rfl rfl (Nat.le_of_ble_eq_true rfl) dX7_asStoker_9 (pC_0_8 a cy I A T (T + 10000)) (fun H locs hP hD hS => ?_)
  refine lv_aload_n hx hb dX7_asStoker_12 rfl (lv_at hl 0 rfl) ?_
  refine lv_iload_n hx hb dX7_asStoker_13 rfl (lv_at hl 1 rfl) ?_
  obtain ⟨r1, hr1, h⟩ := bnd_some h
  refine g_callVi (As := [.int p1]) (rest := []) (ci := 7) (q0 := 0) hx hb hml hown hts (c_X7_asCook_C l dC dI a cy N I A (T + 10000) p1 r1 hr1) (cwV 1 hts gX7_asStoker_X7_asCook rfl rfl rfl (by decide +kernel) ⟨Nat.le_of_ble_eq_true rfl, Nat.le_of_ble_eq_true rfl⟩) hK hP hD hS hA rfl (eC_0 a cy I A (T + 10000)) rfl rfl hl.1 rfl (Nat.le_of_ble_eq_true rfl) dX7_asStoker_14 (fun H locs hP hD hS => ?_)
  refine lv_iload_n hx hb dX7_asStoker_17 rfl (lv_at hl 1 rfl) ?_
  refine lv_iadd hx hb dX7_asStoker_18 ?_
  obtain rfl := Option.some.inj h
  exact g_iret hx hb hr hK hP hD hS hQ dX7_asStoker_19
theorem inX7_asMatron_X7 : ∀ w ∈ u_ws RX7 TX7 9, w ∈ wsX7_asMatron := by decide +kernel
theorem mX7_asMatron_0 : Cond.fieldLink RX7 209 "WarmBottles" "trace" "J" ∈ wsX7_asMatron := List.mem_of_getElem? (i := 1) rfl
theorem mX7_asMatron_1 : Cond.constantLong RX7 221 (100000) ∈ wsX7_asMatron := List.mem_of_getElem? (i := 2) rfl
theorem mX7_asMatron_2 : Cond.fieldLink RX7 26 "WarmBottles" "night" "LWarmBottles$Night;" ∈ wsX7_asMatron := List.mem_of_getElem? (i := 3) rfl
theorem inX7_asMatron_X3 : ∀ w ∈ u_ws RX3 TX3 6, w ∈ wsX7_asMatron := by decide +kernel
theorem mX7_asMatron_3 : Cond.fieldLink RX7 123 "WarmBottles$Night" "kettle" "I" ∈ wsX7_asMatron := List.mem_of_getElem? (i := 4) rfl
def rm_X7_asMatron_C : Room := { frames := 5, cells := 0, slots := 0, locals := 270 }
def f_X7_asMatron_C (N : Nat) (I : Nat → Int32) (A : Nat → Nat → Int32) (T : Int64) (p1 : Int32) : Option (Int32 × Int64) := (Option.bind (f_X7_asBottle_C N I A (T + 100000) p1) (fun r1 => some ((r1.1 + (I 12)), r1.2)))
set_option maxHeartbeats 4000000 in
set_option maxRecDepth 100000 in
theorem c_X7_asMatron_C (l : Launch) (dC : Nat → ClassId) (dI : Nat → Nat → Nat) (a : Nat → Nat) (cy : Nat → ClassId) (N : Nat) (I : Nat → Int32) (A : Nat → Nat → Int32) (T : Int64) (p1 : Int32) (res : Int32 × Int64) (h : f_X7_asMatron_C N I A T p1 = some res) (sz : Nat) : Met l yX7_asMatron wsX7_asMatron rm_X7_asMatron_C (g_Pre (dC, dI) cy [.ref (a 0), .int p1] (wC a cy I A T) sz) (g_Qi (dC, dI) cy res.1 (wC a cy I A T) (wC a cy I A res.2) sz) 0 0 (va_A (wC a cy I A T) sz) := by
  unfold f_X7_asMatron_C at h
  refine g_entry _ _ _ _ _ _ (cc := cX7_asMatron) (maxL := 2) (ret := (some .int)) (by decide) rfl (Nat.le_of_ble_eq_true rfl) ?_
  intro p e s m args below meth c ls hx hb hml hown hts hr hlocks hA hK hP hD hS hl Q hQ
  have hl : lv_has ls 2 [(0, .ref (a 0)), (1, .int p1)] := hl
  have hown : s.vm.findClass RX7 = some m.cls := hown
  refine lv_aload_n hx hb dX7_asMatron_0 rfl (lv_at hl 0 rfl) ?_
  refine lv_dup hx hb dX7_asMatron_1 rfl ?_
  refine va_get (D := (dC, dI)) (ci := 7) (v := .long T) (C := RX7) (T := TX7) (N := 9) hx hb hts inX7_asMatron_X7 hown hK hP 0 (eC_0 a cy I A T) rfl 8 (by decide) (hts _ mX7_asMatron_0) (fun _ h9 => h9) rfl dX7_asMatron_2 ?_
  refine lv_ldc2 (v := 100000) hx hb hown (hts _ mX7_asMatron_1) dX7_asMatron_5 ?_
  refine lv_ladd hx hb dX7_asMatron_8 ?_
  refine g_put (D := (dC, dI)) (ci := 7) (v := .long (T + 100000)) (ty := .long) (C := RX7) (T := TX7) (N := 9) hx hb hts inX7_asMatron_X7 tyX7 tyX7_ok nmX7 hown hK hP hD hS 0 (eC_0 a cy I A T) rfl 8 (by decide) (hts _ mX7_asMatron_0) (fun _ h9 => h9) rfl (by decide +kernel) rfl rfl (Nat.le_of_ble_eq_true rfl) dX7_asMatron_9 (pC_0_8 a cy I A T (T + 100000)) (fun H locs hP hD hS => ?_)
  refine lv_aload_n hx hb dX7_asMatron_12 rfl (lv_at hl 0 rfl) ?_
  refine lv_iload_n hx hb dX7_asMatron_13 rfl (lv_at hl 1 rfl) ?_
  obtain ⟨r1, hr1, h⟩ := bnd_some h
  refine g_callVi (As := [.int p1]) (rest := []) (ci := 7) (q0 := 0) hx hb hml hown hts (c_X7_asBottle_C l dC dI a cy N I A (T + 100000) p1 r1 hr1) (cwV 1 hts gX7_asMatron_X7_asBottle rfl rfl rfl (by decide +kernel) ⟨Nat.le_of_ble_eq_true rfl, Nat.le_of_ble_eq_true rfl⟩) hK hP hD hS hA rfl (eC_0 a cy I A (T + 100000)) rfl rfl hl.1 rfl (Nat.le_of_ble_eq_true rfl) dX7_asMatron_14 (fun H locs hP hD hS => ?_)
  refine lv_aload_n hx hb dX7_asMatron_17 rfl (lv_at hl 0 rfl) ?_
  refine va_get (D := (dC, dI)) (ci := 7) (v := .ref (a 7)) (C := RX7) (T := TX7) (N := 9) hx hb hts inX7_asMatron_X7 hown hK hP 0 (eC_0 a cy I A r1.2) rfl 2 (by decide) (hts _ mX7_asMatron_2) (fun _ h9 => h9) rfl dX7_asMatron_18 ?_
  refine va_get (D := (dC, dI)) (ci := 3) (v := .int (I 12)) (C := RX3) (T := TX3) (N := 6) hx hb hts inX7_asMatron_X3 hown hK hP 7 (eC_7 a cy I A r1.2) rfl 5 (by decide) (hts _ mX7_asMatron_3) (fun _ h9 => h9) rfl dX7_asMatron_21 ?_
  refine lv_iadd hx hb dX7_asMatron_24 ?_
  obtain rfl := Option.some.inj h
  exact g_iret hx hb hr hK hP hD hS hQ dX7_asMatron_25
theorem inX7_rate_X7 : ∀ w ∈ u_ws RX7 TX7 9, w ∈ wsX7_rate := by decide +kernel
theorem mX7_rate_0 : Cond.fieldLink RX7 26 "WarmBottles" "night" "LWarmBottles$Night;" ∈ wsX7_rate := List.mem_of_getElem? (i := 1) rfl
theorem mX7_rate_1 : Cond.constant RX7 190 (-1000000) ∈ wsX7_rate := List.mem_of_getElem? (i := 2) rfl
def rm_X7_rate_C : Room := { frames := 9, cells := 0, slots := 0, locals := 390 }
def f_X7_rate_C (N : Nat) (I : Nat → Int32) (A : Nat → Nat → Int32) (T : Int64) (p1 : Int32) (p2 : Int32) : Option (Int32 × Int64) := (Option.bind (f_X3_has_C N I A p2) (fun r1 => (if r1 = 0 then some ((-1000000), T) else (if p1 = 0 then (Option.bind (f_X7_asBottle_C N I A T p2) (fun r4 => some (r4.1, r4.2))) else (if p1 = 1 then (Option.bind (f_X7_asBosun_C N I A T p2) (fun r6 => some (r6.1, r6.2))) else (if p1 = 2 then (Option.bind (f_X7_asCook_C N I A T p2) (fun r8 => some (r8.1, r8.2))) else (if p1 = 3 then (Option.bind (f_X7_asMate_C N I A T p2) (fun r10 => some (r10.1, r10.2))) else (if p1 = 4 then (Option.bind (f_X7_asStoker_C N I A T p2) (fun r12 => some (r12.1, r12.2))) else (if p1 = 5 then (Option.bind (f_X7_asMatron_C N I A T p2) (fun r14 => some (r14.1, r14.2))) else some ((-1000000), T))))))))))
set_option maxHeartbeats 4000000 in
set_option maxRecDepth 100000 in
theorem c_X7_rate_C (l : Launch) (dC : Nat → ClassId) (dI : Nat → Nat → Nat) (a : Nat → Nat) (cy : Nat → ClassId) (N : Nat) (I : Nat → Int32) (A : Nat → Nat → Int32) (T : Int64) (p1 : Int32) (p2 : Int32) (res : Int32 × Int64) (h : f_X7_rate_C N I A T p1 p2 = some res) (sz : Nat) : Met l yX7_rate wsX7_rate rm_X7_rate_C (g_Pre (dC, dI) cy [.ref (a 0), .int p1, .int p2] (wC a cy I A T) sz) (g_Qi (dC, dI) cy res.1 (wC a cy I A T) (wC a cy I A res.2) sz) 0 0 (va_A (wC a cy I A T) sz) := by
  unfold f_X7_rate_C at h
  refine g_entry _ _ _ _ _ _ (cc := cX7_rate) (maxL := 3) (ret := (some .int)) (by decide) rfl (Nat.le_of_ble_eq_true rfl) ?_
  intro p e s m args below meth c ls hx hb hml hown hts hr hlocks hA hK hP hD hS hl Q hQ
  have hl : lv_has ls 3 [(0, .ref (a 0)), (1, .int p1), (2, .int p2)] := hl
  have hown : s.vm.findClass RX7 = some m.cls := hown
  refine lv_aload_n hx hb dX7_rate_0 rfl (lv_at hl 0 rfl) ?_
  refine va_get (D := (dC, dI)) (ci := 7) (v := .ref (a 7)) (C := RX7) (T := TX7) (N := 9) hx hb hts inX7_rate_X7 hown hK hP 0 (eC_0 a cy I A T) rfl 2 (by decide) (hts _ mX7_rate_0) (fun _ h9 => h9) rfl dX7_rate_1 ?_
  refine lv_iload_n hx hb dX7_rate_4 rfl (lv_at hl 2 rfl) ?_
  obtain ⟨r1, hr1, h⟩ := bnd_some h
  refine g_callVi (As := [.int p2]) (rest := []) (ci := 3) (q0 := 7) hx hb hml hown hts (c_X3_has_C l dC dI a cy N I A T p2 r1 hr1) (cwV 1 hts gX7_rate_X3_has rfl rfl rfl (by decide +kernel) ⟨Nat.le_of_ble_eq_true rfl, Nat.le_of_ble_eq_true rfl⟩) hK hP hD hS hA rfl (eC_7 a cy I A T) rfl rfl hl.1 rfl (Nat.le_of_ble_eq_true rfl) dX7_rate_5 (fun H locs hP hD hS => ?_)
  refine lv_if_ne (tgt := 14) hx hb dX7_rate_8 (by decide) (fun c2 => ?_) (fun c2 => ?_)
  · replace h := ite_f h c2
    refine lv_iload_n hx hb dX7_rate_14 rfl (lv_at hl 1 rfl) ?_
    rcases Decidable.em (p1 = 0) with c3 | c3
    · replace h := ite_t h c3
      refine lv_tableIn (off := 37) (tgt := 52) hx hb dX7_rate_15 (by rw [c3]; decide) (by rw [c3]; decide) (by rw [c3]; rfl) (by decide) ?_
      refine lv_aload_n hx hb dX7_rate_52 rfl (lv_at hl 0 rfl) ?_
      refine lv_iload_n hx hb dX7_rate_53 rfl (lv_at hl 2 rfl) ?_
      obtain ⟨r4, hr4, h⟩ := bnd_some h
      refine g_callVi (As := [.int p2]) (rest := []) (ci := 7) (q0 := 0) hx hb hml hown hts (c_X7_asBottle_C l dC dI a cy N I A T p2 r4 hr4) (cwV 1 hts gX7_rate_X7_asBottle rfl rfl rfl (by decide +kernel) ⟨Nat.le_of_ble_eq_true rfl, Nat.le_of_ble_eq_true rfl⟩) hK hP hD hS hA rfl (eC_0 a cy I A T) rfl rfl hl.1 rfl (Nat.le_of_ble_eq_true rfl) dX7_rate_54 (fun H locs hP hD hS => ?_)
      obtain rfl := Option.some.inj h
      exact g_iret hx hb hr hK hP hD hS hQ dX7_rate_57
    · replace h := ite_f h c3
      rcases Decidable.em (p1 = 1) with c5 | c5
      · replace h := ite_t h c5
        refine lv_tableIn (off := 43) (tgt := 58) hx hb dX7_rate_15 (by rw [c5]; decide) (by rw [c5]; decide) (by rw [c5]; rfl) (by decide) ?_
        refine lv_aload_n hx hb dX7_rate_58 rfl (lv_at hl 0 rfl) ?_
        refine lv_iload_n hx hb dX7_rate_59 rfl (lv_at hl 2 rfl) ?_
        obtain ⟨r6, hr6, h⟩ := bnd_some h
        refine g_callVi (As := [.int p2]) (rest := []) (ci := 7) (q0 := 0) hx hb hml hown hts (c_X7_asBosun_C l dC dI a cy N I A T p2 r6 hr6) (cwV 1 hts gX7_rate_X7_asBosun rfl rfl rfl (by decide +kernel) ⟨Nat.le_of_ble_eq_true rfl, Nat.le_of_ble_eq_true rfl⟩) hK hP hD hS hA rfl (eC_0 a cy I A T) rfl rfl hl.1 rfl (Nat.le_of_ble_eq_true rfl) dX7_rate_60 (fun H locs hP hD hS => ?_)
        obtain rfl := Option.some.inj h
        exact g_iret hx hb hr hK hP hD hS hQ dX7_rate_63
      · replace h := ite_f h c5
        rcases Decidable.em (p1 = 2) with c7 | c7
        · replace h := ite_t h c7
          refine lv_tableIn (off := 49) (tgt := 64) hx hb dX7_rate_15 (by rw [c7]; decide) (by rw [c7]; decide) (by rw [c7]; rfl) (by decide) ?_
          refine lv_aload_n hx hb dX7_rate_64 rfl (lv_at hl 0 rfl) ?_
          refine lv_iload_n hx hb dX7_rate_65 rfl (lv_at hl 2 rfl) ?_
          obtain ⟨r8, hr8, h⟩ := bnd_some h
          refine g_callVi (As := [.int p2]) (rest := []) (ci := 7) (q0 := 0) hx hb hml hown hts (c_X7_asCook_C l dC dI a cy N I A T p2 r8 hr8) (cwV 1 hts gX7_rate_X7_asCook rfl rfl rfl (by decide +kernel) ⟨Nat.le_of_ble_eq_true rfl, Nat.le_of_ble_eq_true rfl⟩) hK hP hD hS hA rfl (eC_0 a cy I A T) rfl rfl hl.1 rfl (Nat.le_of_ble_eq_true rfl) dX7_rate_66 (fun H locs hP hD hS => ?_)
          obtain rfl := Option.some.inj h
          exact g_iret hx hb hr hK hP hD hS hQ dX7_rate_69
        · replace h := ite_f h c7
          rcases Decidable.em (p1 = 3) with c9 | c9
          · replace h := ite_t h c9
            refine lv_tableIn (off := 55) (tgt := 70) hx hb dX7_rate_15 (by rw [c9]; decide) (by rw [c9]; decide) (by rw [c9]; rfl) (by decide) ?_
            refine lv_aload_n hx hb dX7_rate_70 rfl (lv_at hl 0 rfl) ?_
            refine lv_iload_n hx hb dX7_rate_71 rfl (lv_at hl 2 rfl) ?_
            obtain ⟨r10, hr10, h⟩ := bnd_some h
            refine g_callVi (As := [.int p2]) (rest := []) (ci := 7) (q0 := 0) hx hb hml hown hts (c_X7_asMate_C l dC dI a cy N I A T p2 r10 hr10) (cwV 1 hts gX7_rate_X7_asMate rfl rfl rfl (by decide +kernel) ⟨Nat.le_of_ble_eq_true rfl, Nat.le_of_ble_eq_true rfl⟩) hK hP hD hS hA rfl (eC_0 a cy I A T) rfl rfl hl.1 rfl (Nat.le_of_ble_eq_true rfl) dX7_rate_72 (fun H locs hP hD hS => ?_)
            obtain rfl := Option.some.inj h
            exact g_iret hx hb hr hK hP hD hS hQ dX7_rate_75
          · replace h := ite_f h c9
            rcases Decidable.em (p1 = 4) with c11 | c11
            · replace h := ite_t h c11
              refine lv_tableIn (off := 61) (tgt := 76) hx hb dX7_rate_15 (by rw [c11]; decide) (by rw [c11]; decide) (by rw [c11]; rfl) (by decide) ?_
              refine lv_aload_n hx hb dX7_rate_76 rfl (lv_at hl 0 rfl) ?_
              refine lv_iload_n hx hb dX7_rate_77 rfl (lv_at hl 2 rfl) ?_
              obtain ⟨r12, hr12, h⟩ := bnd_some h
              refine g_callVi (As := [.int p2]) (rest := []) (ci := 7) (q0 := 0) hx hb hml hown hts (c_X7_asStoker_C l dC dI a cy N I A T p2 r12 hr12) (cwV 1 hts gX7_rate_X7_asStoker rfl rfl rfl (by decide +kernel) ⟨Nat.le_of_ble_eq_true rfl, Nat.le_of_ble_eq_true rfl⟩) hK hP hD hS hA rfl (eC_0 a cy I A T) rfl rfl hl.1 rfl (Nat.le_of_ble_eq_true rfl) dX7_rate_78 (fun H locs hP hD hS => ?_)
              obtain rfl := Option.some.inj h
              exact g_iret hx hb hr hK hP hD hS hQ dX7_rate_81
            · replace h := ite_f h c11
              rcases Decidable.em (p1 = 5) with c13 | c13
              · replace h := ite_t h c13
                refine lv_tableIn (off := 67) (tgt := 82) hx hb dX7_rate_15 (by rw [c13]; decide) (by rw [c13]; decide) (by rw [c13]; rfl) (by decide) ?_
                refine lv_aload_n hx hb dX7_rate_82 rfl (lv_at hl 0 rfl) ?_
                refine lv_iload_n hx hb dX7_rate_83 rfl (lv_at hl 2 rfl) ?_
                obtain ⟨r14, hr14, h⟩ := bnd_some h
                refine g_callVi (As := [.int p2]) (rest := []) (ci := 7) (q0 := 0) hx hb hml hown hts (c_X7_asMatron_C l dC dI a cy N I A T p2 r14 hr14) (cwV 1 hts gX7_rate_X7_asMatron rfl rfl rfl (by decide +kernel) ⟨Nat.le_of_ble_eq_true rfl, Nat.le_of_ble_eq_true rfl⟩) hK hP hD hS hA rfl (eC_0 a cy I A T) rfl rfl hl.1 rfl (Nat.le_of_ble_eq_true rfl) dX7_rate_84 (fun H locs hP hD hS => ?_)
                obtain rfl := Option.some.inj h
                exact g_iret hx hb hr hK hP hD hS hQ dX7_rate_87
              · replace h := ite_f h c13
                refine lv_tableOut (tgt := 88) hx hb dX7_rate_15 (by have q0 := lv_neT (a := 0) c3 rfl; have q1 := lv_neT (a := 1) c5 rfl; have q2 := lv_neT (a := 2) c7 rfl; have q3 := lv_neT (a := 3) c9 rfl; have q4 := lv_neT (a := 4) c11 rfl; have q5 := lv_neT (a := 5) c13 rfl; omega) (by decide) ?_
                refine lv_ldc (v := (-1000000)) hx hb hown (hts _ mX7_rate_1) dX7_rate_88 ?_
                obtain rfl := Option.some.inj h
                exact g_iret hx hb hr hK hP hD hS hQ dX7_rate_90
  · replace h := ite_t h c2
    refine lv_ldc (v := (-1000000)) hx hb hown (hts _ mX7_rate_1) dX7_rate_11 ?_
    obtain rfl := Option.some.inj h
    exact g_iret hx hb hr hK hP hD hS hQ dX7_rate_13
def rm_X0_put_Cb : Room := { frames := 3, cells := 0, slots := 0, locals := 210 }
def f_X0_put_Cb (N : Nat) (I : Nat → Int32) (A : Nat → Nat → Int32) (p1 : Int32) : Option ((Nat → Nat → Int32)) := (if p1 < 0 then some A else (if p1 < 2 then (if (p1 * 15) < 0 ∨ 30 ≤ ((p1 * 15)).toNatClampNeg then none else (if ((p1 * 15) + 1) < 0 ∨ 30 ≤ (((p1 * 15) + 1)).toNatClampNeg then none else (if ((p1 * 15) + 2) < 0 ∨ 30 ≤ (((p1 * 15) + 2)).toNatClampNeg then none else (if (0 : Int32) < 0 ∨ ((p1 * 15) + 3) < 0 ∨ (6 : Int32) < 0 ∨ 6 < 0 + 6 ∨ 30 < (((p1 * 15) + 3)).toNatClampNeg + 6 then none else (if (0 : Int32) < 0 ∨ ((p1 * 15) + 9) < 0 ∨ (6 : Int32) < 0 ∨ 6 < 0 + 6 ∨ 30 < (((p1 * 15) + 9)).toNatClampNeg + 6 then none else some (va_up (va_up (va_up (va_up (va_up A 10 (upd (A 10) ((p1 * 15)).toNatClampNeg (I 10))) 10 (upd (upd (A 10) ((p1 * 15)).toNatClampNeg (I 10)) (((p1 * 15) + 1)).toNatClampNeg (I 11))) 10 (upd (upd (upd (A 10) ((p1 * 15)).toNatClampNeg (I 10)) (((p1 * 15) + 1)).toNatClampNeg (I 11)) (((p1 * 15) + 2)).toNatClampNeg (I 12))) 10 (va_cpy (A 7) (upd (upd (upd (A 10) ((p1 * 15)).toNatClampNeg (I 10)) (((p1 * 15) + 1)).toNatClampNeg (I 11)) (((p1 * 15) + 2)).toNatClampNeg (I 12)) 0 (((p1 * 15) + 3)).toNatClampNeg 6)) 10 (va_cpy (A 8) (va_cpy (A 7) (upd (upd (upd (A 10) ((p1 * 15)).toNatClampNeg (I 10)) (((p1 * 15) + 1)).toNatClampNeg (I 11)) (((p1 * 15) + 2)).toNatClampNeg (I 12)) 0 (((p1 * 15) + 3)).toNatClampNeg 6) 0 (((p1 * 15) + 9)).toNatClampNeg 6))))))) else some A))
set_option maxHeartbeats 4000000 in
set_option maxRecDepth 100000 in
theorem c_X0_put_Cb (l : Launch) (dC : Nat → ClassId) (dI : Nat → Nat → Nat) (a : Nat → Nat) (cy : Nat → ClassId) (N : Nat) (I : Nat → Int32) (A : Nat → Nat → Int32) (T : Int64) (p1 : Int32) (res : (Nat → Nat → Int32)) (h : f_X0_put_Cb N I A p1 = some res) (sz : Nat) : Met l yX0_put wsX0_put rm_X0_put_Cb (g_Pre (dC, dI) cy [.ref (a 17), .int p1, .ref (a 7)] (wC a cy I A T) sz) (g_Qv (dC, dI) cy (wC a cy I A T) (wC a cy I res T) sz) 0 0 (va_A (wC a cy I A T) sz) := by
  unfold f_X0_put_Cb at h
  refine g_entry _ _ _ _ _ _ (cc := cX0_put) (maxL := 4) (ret := none) (by decide) rfl (Nat.le_of_ble_eq_true rfl) ?_
  intro p e s m args below meth c ls hx hb hml hown hts hr hlocks hA hK hP hD hS hl Q hQ
  have hl : lv_has ls 4 [(0, .ref (a 17)), (1, .int p1), (2, .ref (a 7))] := hl
  have hown : s.vm.findClass RX0 = some m.cls := hown
  refine lv_iload_n hx hb dX0_put_0 rfl (lv_at hl 1 rfl) ?_
  refine lv_if_lt (tgt := 12) hx hb dX0_put_1 (by decide) (fun c1 => ?_) (fun c1 => ?_)
  · replace h := ite_t h c1
    obtain rfl := Option.some.inj h
    exact g_vret hx hb hr hK hP hD hS hQ dX0_put_12
  · replace h := ite_f h c1
    refine lv_iload_n hx hb dX0_put_4 rfl (lv_at hl 1 rfl) ?_
    refine lv_aload_n hx hb dX0_put_5 rfl (lv_at hl 0 rfl) ?_
    refine va_get (D := (dC, dI)) (ci := 0) (v := .int 2) (C := RX0) (T := TX0) (N := 2) hx hb hts inX0_put_X0 hown hK hP 17 (eC_17 a cy I A T) rfl 0 (by decide) (hts _ mX0_put_0) (fun _ h9 => h9) rfl dX0_put_6 ?_
    refine lv_icmp_lt (tgt := 13) hx hb dX0_put_9 (by decide) (fun c2 => ?_) (fun c2 => ?_)
    · replace h := ite_t h c2
      refine lv_iload_n hx hb dX0_put_13 rfl (lv_at hl 1 rfl) ?_
      refine lv_bipush (v := 15) hx hb dX0_put_14 (by decide) ?_
      refine lv_imul hx hb dX0_put_16 ?_
      refine lv_istore_n (lv' := [(3, .int (p1 * 15)), (0, .ref (a 17)), (1, .int p1), (2, .ref (a 7))]) hx hb dX0_put_17 rfl hl (by decide) rfl (fun ls hl => ?_)
      refine lv_aload_n hx hb dX0_put_18 rfl (lv_at hl 1 rfl) ?_
      refine va_get (D := (dC, dI)) (ci := 0) (v := .ref (a 18)) (C := RX0) (T := TX0) (N := 2) hx hb hts inX0_put_X0 hown hK hP 17 (eC_17 a cy I A T) rfl 1 (by decide) (hts _ mX0_put_1) (fun _ h9 => h9) rfl dX0_put_19 ?_
      refine lv_iload_n hx hb dX0_put_22 rfl (lv_at hl 0 rfl) ?_
      refine lv_aload_n hx hb dX0_put_23 rfl (lv_at hl 3 rfl) ?_
      refine va_get (D := (dC, dI)) (ci := 3) (v := .int (I 10)) (C := RX3) (T := TX3) (N := 6) hx hb hts inX0_put_X3 hown hK hP 7 (eC_7 a cy I A T) rfl 3 (by decide) (hts _ mX0_put_2) (fun _ h9 => h9) rfl dX0_put_24 ?_
      obtain ⟨i3, h⟩ := inb_some h
      refine g_iast (f := (A 10)) (j := ((p1 * 15)).toNatClampNeg) hx hb hK hP hD hS 18 (eC_18 a cy I A T) i3 rfl dX0_put_27 (sC_18 a cy I A T (upd (A 10) ((p1 * 15)).toNatClampNeg (I 10))) (fun H locs hP hD hS => ?_)
      refine lv_aload_n hx hb dX0_put_28 rfl (lv_at hl 1 rfl) ?_
      refine va_get (D := (dC, dI)) (ci := 0) (v := .ref (a 18)) (C := RX0) (T := TX0) (N := 2) hx hb hts inX0_put_X0 hown hK hP 17 (eC_17 a cy I (va_up A 10 (upd (A 10) ((p1 * 15)).toNatClampNeg (I 10))) T) rfl 1 (by decide) (hts _ mX0_put_1) (fun _ h9 => h9) rfl dX0_put_29 ?_
      refine lv_iload_n hx hb dX0_put_32 rfl (lv_at hl 0 rfl) ?_
      refine lv_iconst (v := 1) hx hb dX0_put_33 (by decide) ?_
      refine lv_iadd hx hb dX0_put_34 ?_
      refine lv_aload_n hx hb dX0_put_35 rfl (lv_at hl 3 rfl) ?_
      refine va_get (D := (dC, dI)) (ci := 3) (v := .int (I 11)) (C := RX3) (T := TX3) (N := 6) hx hb hts inX0_put_X3 hown hK hP 7 (eC_7 a cy I (va_up A 10 (upd (A 10) ((p1 * 15)).toNatClampNeg (I 10))) T) rfl 4 (by decide) (hts _ mX0_put_3) (fun _ h9 => h9) rfl dX0_put_36 ?_
      obtain ⟨i4, h⟩ := inb_some h
      refine g_iast (f := (upd (A 10) ((p1 * 15)).toNatClampNeg (I 10))) (j := (((p1 * 15) + 1)).toNatClampNeg) hx hb hK hP hD hS 18 (eC_18 a cy I (va_up A 10 (upd (A 10) ((p1 * 15)).toNatClampNeg (I 10))) T) i4 rfl dX0_put_39 (sC_18 a cy I (va_up A 10 (upd (A 10) ((p1 * 15)).toNatClampNeg (I 10))) T (upd (upd (A 10) ((p1 * 15)).toNatClampNeg (I 10)) (((p1 * 15) + 1)).toNatClampNeg (I 11))) (fun H locs hP hD hS => ?_)
      refine lv_aload_n hx hb dX0_put_40 rfl (lv_at hl 1 rfl) ?_
      refine va_get (D := (dC, dI)) (ci := 0) (v := .ref (a 18)) (C := RX0) (T := TX0) (N := 2) hx hb hts inX0_put_X0 hown hK hP 17 (eC_17 a cy I (va_up (va_up A 10 (upd (A 10) ((p1 * 15)).toNatClampNeg (I 10))) 10 (upd (upd (A 10) ((p1 * 15)).toNatClampNeg (I 10)) (((p1 * 15) + 1)).toNatClampNeg (I 11))) T) rfl 1 (by decide) (hts _ mX0_put_1) (fun _ h9 => h9) rfl dX0_put_41 ?_
      refine lv_iload_n hx hb dX0_put_44 rfl (lv_at hl 0 rfl) ?_
      refine lv_iconst (v := 2) hx hb dX0_put_45 (by decide) ?_
      refine lv_iadd hx hb dX0_put_46 ?_
      refine lv_aload_n hx hb dX0_put_47 rfl (lv_at hl 3 rfl) ?_
      refine va_get (D := (dC, dI)) (ci := 3) (v := .int (I 12)) (C := RX3) (T := TX3) (N := 6) hx hb hts inX0_put_X3 hown hK hP 7 (eC_7 a cy I (va_up (va_up A 10 (upd (A 10) ((p1 * 15)).toNatClampNeg (I 10))) 10 (upd (upd (A 10) ((p1 * 15)).toNatClampNeg (I 10)) (((p1 * 15) + 1)).toNatClampNeg (I 11))) T) rfl 5 (by decide) (hts _ mX0_put_4) (fun _ h9 => h9) rfl dX0_put_48 ?_
      obtain ⟨i5, h⟩ := inb_some h
      refine g_iast (f := (upd (upd (A 10) ((p1 * 15)).toNatClampNeg (I 10)) (((p1 * 15) + 1)).toNatClampNeg (I 11))) (j := (((p1 * 15) + 2)).toNatClampNeg) hx hb hK hP hD hS 18 (eC_18 a cy I (va_up (va_up A 10 (upd (A 10) ((p1 * 15)).toNatClampNeg (I 10))) 10 (upd (upd (A 10) ((p1 * 15)).toNatClampNeg (I 10)) (((p1 * 15) + 1)).toNatClampNeg (I 11))) T) i5 rfl dX0_put_51 (sC_18 a cy I (va_up (va_up A 10 (upd (A 10) ((p1 * 15)).toNatClampNeg (I 10))) 10 (upd (upd (A 10) ((p1 * 15)).toNatClampNeg (I 10)) (((p1 * 15) + 1)).toNatClampNeg (I 11))) T (upd (upd (upd (A 10) ((p1 * 15)).toNatClampNeg (I 10)) (((p1 * 15) + 1)).toNatClampNeg (I 11)) (((p1 * 15) + 2)).toNatClampNeg (I 12))) (fun H locs hP hD hS => ?_)
      refine lv_aload_n hx hb dX0_put_52 rfl (lv_at hl 3 rfl) ?_
      refine va_get (D := (dC, dI)) (ci := 3) (v := .ref (a 12)) (C := RX3) (T := TX3) (N := 6) hx hb hts inX0_put_X3 hown hK hP 7 (eC_7 a cy I (va_up (va_up (va_up A 10 (upd (A 10) ((p1 * 15)).toNatClampNeg (I 10))) 10 (upd (upd (A 10) ((p1 * 15)).toNatClampNeg (I 10)) (((p1 * 15) + 1)).toNatClampNeg (I 11))) 10 (upd (upd (upd (A 10) ((p1 * 15)).toNatClampNeg (I 10)) (((p1 * 15) + 1)).toNatClampNeg (I 11)) (((p1 * 15) + 2)).toNatClampNeg (I 12))) T) rfl 1 (by decide) (hts _ mX0_put_5) (fun _ h9 => h9) rfl dX0_put_53 ?_
      refine lv_iconst (v := 0) hx hb dX0_put_56 (by decide) ?_
      refine lv_aload_n hx hb dX0_put_57 rfl (lv_at hl 1 rfl) ?_
      refine va_get (D := (dC, dI)) (ci := 0) (v := .ref (a 18)) (C := RX0) (T := TX0) (N := 2) hx hb hts inX0_put_X0 hown hK hP 17 (eC_17 a cy I (va_up (va_up (va_up A 10 (upd (A 10) ((p1 * 15)).toNatClampNeg (I 10))) 10 (upd (upd (A 10) ((p1 * 15)).toNatClampNeg (I 10)) (((p1 * 15) + 1)).toNatClampNeg (I 11))) 10 (upd (upd (upd (A 10) ((p1 * 15)).toNatClampNeg (I 10)) (((p1 * 15) + 1)).toNatClampNeg (I 11)) (((p1 * 15) + 2)).toNatClampNeg (I 12))) T) rfl 1 (by decide) (hts _ mX0_put_1) (fun _ h9 => h9) rfl dX0_put_58 ?_
      refine lv_iload_n hx hb dX0_put_61 rfl (lv_at hl 0 rfl) ?_
      refine lv_iconst (v := 3) hx hb dX0_put_62 (by decide) ?_
      refine lv_iadd hx hb dX0_put_63 ?_
      refine lv_bipush (v := 6) hx hb dX0_put_64 (by decide) ?_
      obtain ⟨y6, h⟩ := cp_some h
      refine g_copyi (f := (A 7)) (g := (upd (upd (upd (A 10) ((p1 * 15)).toNatClampNeg (I 10)) (((p1 * 15) + 1)).toNatClampNeg (I 11)) (((p1 * 15) + 2)).toNatClampNeg (I 12))) (js := 0) (jd := (((p1 * 15) + 3)).toNatClampNeg) (jn := 6) hx hb (hml.trans hl.1.symm) hown (hts _ mX0_put_6) (hts _ mX0_put_7) (hts _ mX0_put_8) (hts _ mX0_put_9) hK hP hD hS 12 18 (eC_12 a cy I (va_up (va_up (va_up A 10 (upd (A 10) ((p1 * 15)).toNatClampNeg (I 10))) 10 (upd (upd (A 10) ((p1 * 15)).toNatClampNeg (I 10)) (((p1 * 15) + 1)).toNatClampNeg (I 11))) 10 (upd (upd (upd (A 10) ((p1 * 15)).toNatClampNeg (I 10)) (((p1 * 15) + 1)).toNatClampNeg (I 11)) (((p1 * 15) + 2)).toNatClampNeg (I 12))) T) (eC_18 a cy I (va_up (va_up (va_up A 10 (upd (A 10) ((p1 * 15)).toNatClampNeg (I 10))) 10 (upd (upd (A 10) ((p1 * 15)).toNatClampNeg (I 10)) (((p1 * 15) + 1)).toNatClampNeg (I 11))) 10 (upd (upd (upd (A 10) ((p1 * 15)).toNatClampNeg (I 10)) (((p1 * 15) + 1)).toNatClampNeg (I 11)) (((p1 * 15) + 2)).toNatClampNeg (I 12))) T) y6 rfl rfl rfl (Nat.le_of_ble_eq_true rfl) (Nat.le_of_ble_eq_true rfl) dX0_put_66 (sC_18 a cy I (va_up (va_up (va_up A 10 (upd (A 10) ((p1 * 15)).toNatClampNeg (I 10))) 10 (upd (upd (A 10) ((p1 * 15)).toNatClampNeg (I 10)) (((p1 * 15) + 1)).toNatClampNeg (I 11))) 10 (upd (upd (upd (A 10) ((p1 * 15)).toNatClampNeg (I 10)) (((p1 * 15) + 1)).toNatClampNeg (I 11)) (((p1 * 15) + 2)).toNatClampNeg (I 12))) T (va_cpy (A 7) (upd (upd (upd (A 10) ((p1 * 15)).toNatClampNeg (I 10)) (((p1 * 15) + 1)).toNatClampNeg (I 11)) (((p1 * 15) + 2)).toNatClampNeg (I 12)) 0 (((p1 * 15) + 3)).toNatClampNeg 6)) (fun H locs hP hD hS => ?_)
      refine lv_aload_n hx hb dX0_put_69 rfl (lv_at hl 3 rfl) ?_
      refine va_get (D := (dC, dI)) (ci := 3) (v := .ref (a 13)) (C := RX3) (T := TX3) (N := 6) hx hb hts inX0_put_X3 hown hK hP 7 (eC_7 a cy I (va_up (va_up (va_up (va_up A 10 (upd (A 10) ((p1 * 15)).toNatClampNeg (I 10))) 10 (upd (upd (A 10) ((p1 * 15)).toNatClampNeg (I 10)) (((p1 * 15) + 1)).toNatClampNeg (I 11))) 10 (upd (upd (upd (A 10) ((p1 * 15)).toNatClampNeg (I 10)) (((p1 * 15) + 1)).toNatClampNeg (I 11)) (((p1 * 15) + 2)).toNatClampNeg (I 12))) 10 (va_cpy (A 7) (upd (upd (upd (A 10) ((p1 * 15)).toNatClampNeg (I 10)) (((p1 * 15) + 1)).toNatClampNeg (I 11)) (((p1 * 15) + 2)).toNatClampNeg (I 12)) 0 (((p1 * 15) + 3)).toNatClampNeg 6)) T) rfl 2 (by decide) (hts _ mX0_put_10) (fun _ h9 => h9) rfl dX0_put_70 ?_
      refine lv_iconst (v := 0) hx hb dX0_put_73 (by decide) ?_
      refine lv_aload_n hx hb dX0_put_74 rfl (lv_at hl 1 rfl) ?_
      refine va_get (D := (dC, dI)) (ci := 0) (v := .ref (a 18)) (C := RX0) (T := TX0) (N := 2) hx hb hts inX0_put_X0 hown hK hP 17 (eC_17 a cy I (va_up (va_up (va_up (va_up A 10 (upd (A 10) ((p1 * 15)).toNatClampNeg (I 10))) 10 (upd (upd (A 10) ((p1 * 15)).toNatClampNeg (I 10)) (((p1 * 15) + 1)).toNatClampNeg (I 11))) 10 (upd (upd (upd (A 10) ((p1 * 15)).toNatClampNeg (I 10)) (((p1 * 15) + 1)).toNatClampNeg (I 11)) (((p1 * 15) + 2)).toNatClampNeg (I 12))) 10 (va_cpy (A 7) (upd (upd (upd (A 10) ((p1 * 15)).toNatClampNeg (I 10)) (((p1 * 15) + 1)).toNatClampNeg (I 11)) (((p1 * 15) + 2)).toNatClampNeg (I 12)) 0 (((p1 * 15) + 3)).toNatClampNeg 6)) T) rfl 1 (by decide) (hts _ mX0_put_1) (fun _ h9 => h9) rfl dX0_put_75 ?_
      refine lv_iload_n hx hb dX0_put_78 rfl (lv_at hl 0 rfl) ?_
      refine lv_bipush (v := 9) hx hb dX0_put_79 (by decide) ?_
      refine lv_iadd hx hb dX0_put_81 ?_
      refine lv_bipush (v := 6) hx hb dX0_put_82 (by decide) ?_
      obtain ⟨y7, h⟩ := cp_some h
      refine g_copyi (f := (A 8)) (g := (va_cpy (A 7) (upd (upd (upd (A 10) ((p1 * 15)).toNatClampNeg (I 10)) (((p1 * 15) + 1)).toNatClampNeg (I 11)) (((p1 * 15) + 2)).toNatClampNeg (I 12)) 0 (((p1 * 15) + 3)).toNatClampNeg 6)) (js := 0) (jd := (((p1 * 15) + 9)).toNatClampNeg) (jn := 6) hx hb (hml.trans hl.1.symm) hown (hts _ mX0_put_6) (hts _ mX0_put_7) (hts _ mX0_put_8) (hts _ mX0_put_9) hK hP hD hS 13 18 (eC_13 a cy I (va_up (va_up (va_up (va_up A 10 (upd (A 10) ((p1 * 15)).toNatClampNeg (I 10))) 10 (upd (upd (A 10) ((p1 * 15)).toNatClampNeg (I 10)) (((p1 * 15) + 1)).toNatClampNeg (I 11))) 10 (upd (upd (upd (A 10) ((p1 * 15)).toNatClampNeg (I 10)) (((p1 * 15) + 1)).toNatClampNeg (I 11)) (((p1 * 15) + 2)).toNatClampNeg (I 12))) 10 (va_cpy (A 7) (upd (upd (upd (A 10) ((p1 * 15)).toNatClampNeg (I 10)) (((p1 * 15) + 1)).toNatClampNeg (I 11)) (((p1 * 15) + 2)).toNatClampNeg (I 12)) 0 (((p1 * 15) + 3)).toNatClampNeg 6)) T) (eC_18 a cy I (va_up (va_up (va_up (va_up A 10 (upd (A 10) ((p1 * 15)).toNatClampNeg (I 10))) 10 (upd (upd (A 10) ((p1 * 15)).toNatClampNeg (I 10)) (((p1 * 15) + 1)).toNatClampNeg (I 11))) 10 (upd (upd (upd (A 10) ((p1 * 15)).toNatClampNeg (I 10)) (((p1 * 15) + 1)).toNatClampNeg (I 11)) (((p1 * 15) + 2)).toNatClampNeg (I 12))) 10 (va_cpy (A 7) (upd (upd (upd (A 10) ((p1 * 15)).toNatClampNeg (I 10)) (((p1 * 15) + 1)).toNatClampNeg (I 11)) (((p1 * 15) + 2)).toNatClampNeg (I 12)) 0 (((p1 * 15) + 3)).toNatClampNeg 6)) T) y7 rfl rfl rfl (Nat.le_of_ble_eq_true rfl) (Nat.le_of_ble_eq_true rfl) dX0_put_84 (sC_18 a cy I (va_up (va_up (va_up (va_up A 10 (upd (A 10) ((p1 * 15)).toNatClampNeg (I 10))) 10 (upd (upd (A 10) ((p1 * 15)).toNatClampNeg (I 10)) (((p1 * 15) + 1)).toNatClampNeg (I 11))) 10 (upd (upd (upd (A 10) ((p1 * 15)).toNatClampNeg (I 10)) (((p1 * 15) + 1)).toNatClampNeg (I 11)) (((p1 * 15) + 2)).toNatClampNeg (I 12))) 10 (va_cpy (A 7) (upd (upd (upd (A 10) ((p1 * 15)).toNatClampNeg (I 10)) (((p1 * 15) + 1)).toNatClampNeg (I 11)) (((p1 * 15) + 2)).toNatClampNeg (I 12)) 0 (((p1 * 15) + 3)).toNatClampNeg 6)) T (va_cpy (A 8) (va_cpy (A 7) (upd (upd (upd (A 10) ((p1 * 15)).toNatClampNeg (I 10)) (((p1 * 15) + 1)).toNatClampNeg (I 11)) (((p1 * 15) + 2)).toNatClampNeg (I 12)) 0 (((p1 * 15) + 3)).toNatClampNeg 6) 0 (((p1 * 15) + 9)).toNatClampNeg 6)) (fun H locs hP hD hS => ?_)
      obtain rfl := Option.some.inj h
      exact g_vret hx hb hr hK hP hD hS hQ dX0_put_87
    · replace h := ite_f h c2
      obtain rfl := Option.some.inj h
      exact g_vret hx hb hr hK hP hD hS hQ dX0_put_12
theorem inX7_keep_X7 : ∀ w ∈ u_ws RX7 TX7 9, w ∈ wsX7_keep := by decide +kernel
theorem mX7_keep_0 : Cond.fieldLink RX7 46 "WarmBottles" "imageKept" "[Z" ∈ wsX7_keep := List.mem_of_getElem? (i := 1) rfl
theorem mX7_keep_1 : Cond.fieldLink RX7 42 "WarmBottles" "images" "LWarmBottles$Copies;" ∈ wsX7_keep := List.mem_of_getElem? (i := 2) rfl
theorem mX7_keep_2 : Cond.fieldLink RX7 26 "WarmBottles" "night" "LWarmBottles$Night;" ∈ wsX7_keep := List.mem_of_getElem? (i := 3) rfl
theorem inX7_keep_X3 : ∀ w ∈ u_ws RX3 TX3 6, w ∈ wsX7_keep := by decide +kernel
theorem mX7_keep_3 : Cond.fieldLink RX7 117 "WarmBottles$Night" "hour" "I" ∈ wsX7_keep := List.mem_of_getElem? (i := 4) rfl
def rm_X7_keep_C : Room := { frames := 5, cells := 0, slots := 0, locals := 270 }
def f_X7_keep_C (N : Nat) (I : Nat → Int32) (A : Nat → Nat → Int32) (p1 : Int32) : Option (Int32 × (Nat → Nat → Int32)) := (if p1 < 0 then some ((-1), A) else (if p1 < 2 then (Option.bind (f_X0_put_Cb N I A p1) (fun r3 => (if p1 < 0 ∨ 2 ≤ p1.toNatClampNeg then none else some ((I 10), (va_up r3 11 (upd (r3 11) p1.toNatClampNeg (vp_nar .boolean 1))))))) else some ((-1), A)))
set_option maxHeartbeats 4000000 in
set_option maxRecDepth 100000 in
theorem c_X7_keep_C (l : Launch) (dC : Nat → ClassId) (dI : Nat → Nat → Nat) (a : Nat → Nat) (cy : Nat → ClassId) (N : Nat) (I : Nat → Int32) (A : Nat → Nat → Int32) (T : Int64) (p1 : Int32) (res : Int32 × (Nat → Nat → Int32)) (h : f_X7_keep_C N I A p1 = some res) (sz : Nat) : Met l yX7_keep wsX7_keep rm_X7_keep_C (g_Pre (dC, dI) cy [.ref (a 0), .int p1] (wC a cy I A T) sz) (g_Qi (dC, dI) cy res.1 (wC a cy I A T) (wC a cy I res.2 T) sz) 0 0 (va_A (wC a cy I A T) sz) := by
  unfold f_X7_keep_C at h
  refine g_entry _ _ _ _ _ _ (cc := cX7_keep) (maxL := 2) (ret := (some .int)) (by decide) rfl (Nat.le_of_ble_eq_true rfl) ?_
  intro p e s m args below meth c ls hx hb hml hown hts hr hlocks hA hK hP hD hS hl Q hQ
  have hl : lv_has ls 2 [(0, .ref (a 0)), (1, .int p1)] := hl
  have hown : s.vm.findClass RX7 = some m.cls := hown
  refine lv_iload_n hx hb dX7_keep_0 rfl (lv_at hl 1 rfl) ?_
  refine lv_if_lt (tgt := 13) hx hb dX7_keep_1 (by decide) (fun c1 => ?_) (fun c1 => ?_)
  · replace h := ite_t h c1
    refine lv_iconst (v := (-1)) hx hb dX7_keep_13 (by decide) ?_
    obtain rfl := Option.some.inj h
    exact g_iret hx hb hr hK hP hD hS hQ dX7_keep_14
  · replace h := ite_f h c1
    refine lv_iload_n hx hb dX7_keep_4 rfl (lv_at hl 1 rfl) ?_
    refine lv_aload_n hx hb dX7_keep_5 rfl (lv_at hl 0 rfl) ?_
    refine va_get (D := (dC, dI)) (ci := 7) (v := .ref (a 19)) (C := RX7) (T := TX7) (N := 9) hx hb hts inX7_keep_X7 hown hK hP 0 (eC_0 a cy I A T) rfl 5 (by decide) (hts _ mX7_keep_0) (fun _ h9 => h9) rfl dX7_keep_6 ?_
    refine va_alen (v := 2) hx hb hK hP 19 2 (eC_19 a cy I A T) rfl rfl dX7_keep_9 ?_
    refine lv_icmp_lt (tgt := 15) hx hb dX7_keep_10 (by decide) (fun c2 => ?_) (fun c2 => ?_)
    · replace h := ite_t h c2
      refine lv_aload_n hx hb dX7_keep_15 rfl (lv_at hl 0 rfl) ?_
      refine va_get (D := (dC, dI)) (ci := 7) (v := .ref (a 17)) (C := RX7) (T := TX7) (N := 9) hx hb hts inX7_keep_X7 hown hK hP 0 (eC_0 a cy I A T) rfl 4 (by decide) (hts _ mX7_keep_1) (fun _ h9 => h9) rfl dX7_keep_16 ?_
      refine lv_iload_n hx hb dX7_keep_19 rfl (lv_at hl 1 rfl) ?_
      refine lv_aload_n hx hb dX7_keep_20 rfl (lv_at hl 0 rfl) ?_
      refine va_get (D := (dC, dI)) (ci := 7) (v := .ref (a 7)) (C := RX7) (T := TX7) (N := 9) hx hb hts inX7_keep_X7 hown hK hP 0 (eC_0 a cy I A T) rfl 2 (by decide) (hts _ mX7_keep_2) (fun _ h9 => h9) rfl dX7_keep_21 ?_
      obtain ⟨r3, hr3, h⟩ := bnd_some h
      refine g_callVv (As := [.int p1, .ref (a 7)]) (rest := []) (ci := 0) (q0 := 17) hx hb hml hown hts (c_X0_put_Cb l dC dI a cy N I A T p1 r3 hr3) (cwV 2 hts gX7_keep_X0_put rfl rfl rfl (by decide +kernel) ⟨Nat.le_of_ble_eq_true rfl, Nat.le_of_ble_eq_true rfl⟩) hK hP hD hS hA rfl (eC_17 a cy I A T) rfl rfl hl.1 rfl (Nat.le_of_ble_eq_true rfl) dX7_keep_24 (fun H locs hP hD hS => ?_)
      refine lv_aload_n hx hb dX7_keep_27 rfl (lv_at hl 0 rfl) ?_
      refine va_get (D := (dC, dI)) (ci := 7) (v := .ref (a 19)) (C := RX7) (T := TX7) (N := 9) hx hb hts inX7_keep_X7 hown hK hP 0 (eC_0 a cy I r3 T) rfl 5 (by decide) (hts _ mX7_keep_0) (fun _ h9 => h9) rfl dX7_keep_28 ?_
      refine lv_iload_n hx hb dX7_keep_31 rfl (lv_at hl 1 rfl) ?_
      refine lv_iconst (v := 1) hx hb dX7_keep_32 (by decide) ?_
      obtain ⟨i4, h⟩ := inb_some h
      refine g_zast (f := (r3 11)) (j := p1.toNatClampNeg) hx hb hK hP hD hS 19 (eC_19 a cy I r3 T) i4 rfl dX7_keep_33 (sC_19 a cy I r3 T (upd (r3 11) p1.toNatClampNeg (vp_nar .boolean 1))) (fun H locs hP hD hS => ?_)
      refine lv_aload_n hx hb dX7_keep_34 rfl (lv_at hl 0 rfl) ?_
      refine va_get (D := (dC, dI)) (ci := 7) (v := .ref (a 7)) (C := RX7) (T := TX7) (N := 9) hx hb hts inX7_keep_X7 hown hK hP 0 (eC_0 a cy I (va_up r3 11 (upd (r3 11) p1.toNatClampNeg (vp_nar .boolean 1))) T) rfl 2 (by decide) (hts _ mX7_keep_2) (fun _ h9 => h9) rfl dX7_keep_35 ?_
      refine va_get (D := (dC, dI)) (ci := 3) (v := .int (I 10)) (C := RX3) (T := TX3) (N := 6) hx hb hts inX7_keep_X3 hown hK hP 7 (eC_7 a cy I (va_up r3 11 (upd (r3 11) p1.toNatClampNeg (vp_nar .boolean 1))) T) rfl 3 (by decide) (hts _ mX7_keep_3) (fun _ h9 => h9) rfl dX7_keep_38 ?_
      obtain rfl := Option.some.inj h
      exact g_iret hx hb hr hK hP hD hS hQ dX7_keep_41
    · replace h := ite_f h c2
      refine lv_iconst (v := (-1)) hx hb dX7_keep_13 (by decide) ?_
      obtain rfl := Option.some.inj h
      exact g_iret hx hb hr hK hP hD hS hQ dX7_keep_14
def rm_X0_take_Cb : Room := { frames := 3, cells := 0, slots := 0, locals := 210 }
def f_X0_take_Cb (N : Nat) (I : Nat → Int32) (A : Nat → Nat → Int32) (p1 : Int32) : Option ((Nat → Int32) × (Nat → Nat → Int32)) := (if p1 < 0 then some (I, A) else (if p1 < 2 then (if (p1 * 15) < 0 ∨ 30 ≤ ((p1 * 15)).toNatClampNeg then none else (if ((p1 * 15) + 1) < 0 ∨ 30 ≤ (((p1 * 15) + 1)).toNatClampNeg then none else (if ((p1 * 15) + 2) < 0 ∨ 30 ≤ (((p1 * 15) + 2)).toNatClampNeg then none else (if ((p1 * 15) + 3) < 0 ∨ (0 : Int32) < 0 ∨ (6 : Int32) < 0 ∨ 30 < (((p1 * 15) + 3)).toNatClampNeg + 6 ∨ 6 < 0 + 6 then none else (if ((p1 * 15) + 9) < 0 ∨ (0 : Int32) < 0 ∨ (6 : Int32) < 0 ∨ 30 < (((p1 * 15) + 9)).toNatClampNeg + 6 ∨ 6 < 0 + 6 then none else some ((upd (upd (upd I 10 ((A 10) ((p1 * 15)).toNatClampNeg)) 11 ((A 10) (((p1 * 15) + 1)).toNatClampNeg)) 12 ((A 10) (((p1 * 15) + 2)).toNatClampNeg)), (va_up (va_up A 7 (va_cpy (A 10) (A 7) (((p1 * 15) + 3)).toNatClampNeg 0 6)) 8 (va_cpy (A 10) (A 8) (((p1 * 15) + 9)).toNatClampNeg 0 6)))))))) else some (I, A)))
set_option maxHeartbeats 4000000 in
set_option maxRecDepth 100000 in
theorem c_X0_take_Cb (l : Launch) (dC : Nat → ClassId) (dI : Nat → Nat → Nat) (a : Nat → Nat) (cy : Nat → ClassId) (N : Nat) (I : Nat → Int32) (A : Nat → Nat → Int32) (T : Int64) (p1 : Int32) (res : (Nat → Int32) × (Nat → Nat → Int32)) (h : f_X0_take_Cb N I A p1 = some res) (sz : Nat) : Met l yX0_take wsX0_take rm_X0_take_Cb (g_Pre (dC, dI) cy [.ref (a 17), .int p1, .ref (a 7)] (wC a cy I A T) sz) (g_Qv (dC, dI) cy (wC a cy I A T) (wC a cy res.1 res.2 T) sz) 0 0 (va_A (wC a cy I A T) sz) := by
  unfold f_X0_take_Cb at h
  refine g_entry _ _ _ _ _ _ (cc := cX0_take) (maxL := 4) (ret := none) (by decide) rfl (Nat.le_of_ble_eq_true rfl) ?_
  intro p e s m args below meth c ls hx hb hml hown hts hr hlocks hA hK hP hD hS hl Q hQ
  have hl : lv_has ls 4 [(0, .ref (a 17)), (1, .int p1), (2, .ref (a 7))] := hl
  have hown : s.vm.findClass RX0 = some m.cls := hown
  refine lv_iload_n hx hb dX0_take_0 rfl (lv_at hl 1 rfl) ?_
  refine lv_if_lt (tgt := 12) hx hb dX0_take_1 (by decide) (fun c1 => ?_) (fun c1 => ?_)
  · replace h := ite_t h c1
    obtain rfl := Option.some.inj h
    exact g_vret hx hb hr hK hP hD hS hQ dX0_take_12
  · replace h := ite_f h c1
    refine lv_iload_n hx hb dX0_take_4 rfl (lv_at hl 1 rfl) ?_
    refine lv_aload_n hx hb dX0_take_5 rfl (lv_at hl 0 rfl) ?_
    refine va_get (D := (dC, dI)) (ci := 0) (v := .int 2) (C := RX0) (T := TX0) (N := 2) hx hb hts inX0_take_X0 hown hK hP 17 (eC_17 a cy I A T) rfl 0 (by decide) (hts _ mX0_take_0) (fun _ h9 => h9) rfl dX0_take_6 ?_
    refine lv_icmp_lt (tgt := 13) hx hb dX0_take_9 (by decide) (fun c2 => ?_) (fun c2 => ?_)
    · replace h := ite_t h c2
      refine lv_iload_n hx hb dX0_take_13 rfl (lv_at hl 1 rfl) ?_
      refine lv_bipush (v := 15) hx hb dX0_take_14 (by decide) ?_
      refine lv_imul hx hb dX0_take_16 ?_
      refine lv_istore_n (lv' := [(3, .int (p1 * 15)), (0, .ref (a 17)), (1, .int p1), (2, .ref (a 7))]) hx hb dX0_take_17 rfl hl (by decide) rfl (fun ls hl => ?_)
      refine lv_aload_n hx hb dX0_take_18 rfl (lv_at hl 3 rfl) ?_
      refine lv_aload_n hx hb dX0_take_19 rfl (lv_at hl 1 rfl) ?_
      refine va_get (D := (dC, dI)) (ci := 0) (v := .ref (a 18)) (C := RX0) (T := TX0) (N := 2) hx hb hts inX0_take_X0 hown hK hP 17 (eC_17 a cy I A T) rfl 1 (by decide) (hts _ mX0_take_1) (fun _ h9 => h9) rfl dX0_take_20 ?_
      refine lv_iload_n hx hb dX0_take_23 rfl (lv_at hl 0 rfl) ?_
      obtain ⟨i3, h⟩ := inb_some h
      refine g_iald (f := (A 10)) (j := ((p1 * 15)).toNatClampNeg) hx hb hK hP 18 (eC_18 a cy I A T) i3 rfl dX0_take_24 ?_
      refine g_put (D := (dC, dI)) (ci := 3) (v := .int ((A 10) ((p1 * 15)).toNatClampNeg)) (ty := .int) (C := RX3) (T := TX3) (N := 6) hx hb hts inX0_take_X3 tyX3 tyX3_ok nmX3 hown hK hP hD hS 7 (eC_7 a cy I A T) rfl 3 (by decide) (hts _ mX0_take_2) (fun _ h9 => h9) rfl (by decide +kernel) rfl rfl (Nat.le_of_ble_eq_true rfl) dX0_take_25 (pC_7_3 a cy I A T ((A 10) ((p1 * 15)).toNatClampNeg)) (fun H locs hP hD hS => ?_)
      refine lv_aload_n hx hb dX0_take_28 rfl (lv_at hl 3 rfl) ?_
      refine lv_aload_n hx hb dX0_take_29 rfl (lv_at hl 1 rfl) ?_
      refine va_get (D := (dC, dI)) (ci := 0) (v := .ref (a 18)) (C := RX0) (T := TX0) (N := 2) hx hb hts inX0_take_X0 hown hK hP 17 (eC_17 a cy (upd I 10 ((A 10) ((p1 * 15)).toNatClampNeg)) A T) rfl 1 (by decide) (hts _ mX0_take_1) (fun _ h9 => h9) rfl dX0_take_30 ?_
      refine lv_iload_n hx hb dX0_take_33 rfl (lv_at hl 0 rfl) ?_
      refine lv_iconst (v := 1) hx hb dX0_take_34 (by decide) ?_
      refine lv_iadd hx hb dX0_take_35 ?_
      obtain ⟨i4, h⟩ := inb_some h
      refine g_iald (f := (A 10)) (j := (((p1 * 15) + 1)).toNatClampNeg) hx hb hK hP 18 (eC_18 a cy (upd I 10 ((A 10) ((p1 * 15)).toNatClampNeg)) A T) i4 rfl dX0_take_36 ?_
      refine g_put (D := (dC, dI)) (ci := 3) (v := .int ((A 10) (((p1 * 15) + 1)).toNatClampNeg)) (ty := .int) (C := RX3) (T := TX3) (N := 6) hx hb hts inX0_take_X3 tyX3 tyX3_ok nmX3 hown hK hP hD hS 7 (eC_7 a cy (upd I 10 ((A 10) ((p1 * 15)).toNatClampNeg)) A T) rfl 4 (by decide) (hts _ mX0_take_3) (fun _ h9 => h9) rfl (by decide +kernel) rfl rfl (Nat.le_of_ble_eq_true rfl) dX0_take_37 (pC_7_4 a cy (upd I 10 ((A 10) ((p1 * 15)).toNatClampNeg)) A T ((A 10) (((p1 * 15) + 1)).toNatClampNeg)) (fun H locs hP hD hS => ?_)
      refine lv_aload_n hx hb dX0_take_40 rfl (lv_at hl 3 rfl) ?_
      refine lv_aload_n hx hb dX0_take_41 rfl (lv_at hl 1 rfl) ?_
      refine va_get (D := (dC, dI)) (ci := 0) (v := .ref (a 18)) (C := RX0) (T := TX0) (N := 2) hx hb hts inX0_take_X0 hown hK hP 17 (eC_17 a cy (upd (upd I 10 ((A 10) ((p1 * 15)).toNatClampNeg)) 11 ((A 10) (((p1 * 15) + 1)).toNatClampNeg)) A T) rfl 1 (by decide) (hts _ mX0_take_1) (fun _ h9 => h9) rfl dX0_take_42 ?_
      refine lv_iload_n hx hb dX0_take_45 rfl (lv_at hl 0 rfl) ?_
      refine lv_iconst (v := 2) hx hb dX0_take_46 (by decide) ?_
      refine lv_iadd hx hb dX0_take_47 ?_
      obtain ⟨i5, h⟩ := inb_some h
      refine g_iald (f := (A 10)) (j := (((p1 * 15) + 2)).toNatClampNeg) hx hb hK hP 18 (eC_18 a cy (upd (upd I 10 ((A 10) ((p1 * 15)).toNatClampNeg)) 11 ((A 10) (((p1 * 15) + 1)).toNatClampNeg)) A T) i5 rfl dX0_take_48 ?_
      refine g_put (D := (dC, dI)) (ci := 3) (v := .int ((A 10) (((p1 * 15) + 2)).toNatClampNeg)) (ty := .int) (C := RX3) (T := TX3) (N := 6) hx hb hts inX0_take_X3 tyX3 tyX3_ok nmX3 hown hK hP hD hS 7 (eC_7 a cy (upd (upd I 10 ((A 10) ((p1 * 15)).toNatClampNeg)) 11 ((A 10) (((p1 * 15) + 1)).toNatClampNeg)) A T) rfl 5 (by decide) (hts _ mX0_take_4) (fun _ h9 => h9) rfl (by decide +kernel) rfl rfl (Nat.le_of_ble_eq_true rfl) dX0_take_49 (pC_7_5 a cy (upd (upd I 10 ((A 10) ((p1 * 15)).toNatClampNeg)) 11 ((A 10) (((p1 * 15) + 1)).toNatClampNeg)) A T ((A 10) (((p1 * 15) + 2)).toNatClampNeg)) (fun H locs hP hD hS => ?_)
      refine lv_aload_n hx hb dX0_take_52 rfl (lv_at hl 1 rfl) ?_
      refine va_get (D := (dC, dI)) (ci := 0) (v := .ref (a 18)) (C := RX0) (T := TX0) (N := 2) hx hb hts inX0_take_X0 hown hK hP 17 (eC_17 a cy (upd (upd (upd I 10 ((A 10) ((p1 * 15)).toNatClampNeg)) 11 ((A 10) (((p1 * 15) + 1)).toNatClampNeg)) 12 ((A 10) (((p1 * 15) + 2)).toNatClampNeg)) A T) rfl 1 (by decide) (hts _ mX0_take_1) (fun _ h9 => h9) rfl dX0_take_53 ?_
      refine lv_iload_n hx hb dX0_take_56 rfl (lv_at hl 0 rfl) ?_
      refine lv_iconst (v := 3) hx hb dX0_take_57 (by decide) ?_
      refine lv_iadd hx hb dX0_take_58 ?_
      refine lv_aload_n hx hb dX0_take_59 rfl (lv_at hl 3 rfl) ?_
      refine va_get (D := (dC, dI)) (ci := 3) (v := .ref (a 12)) (C := RX3) (T := TX3) (N := 6) hx hb hts inX0_take_X3 hown hK hP 7 (eC_7 a cy (upd (upd (upd I 10 ((A 10) ((p1 * 15)).toNatClampNeg)) 11 ((A 10) (((p1 * 15) + 1)).toNatClampNeg)) 12 ((A 10) (((p1 * 15) + 2)).toNatClampNeg)) A T) rfl 1 (by decide) (hts _ mX0_take_5) (fun _ h9 => h9) rfl dX0_take_60 ?_
      refine lv_iconst (v := 0) hx hb dX0_take_63 (by decide) ?_
      refine lv_bipush (v := 6) hx hb dX0_take_64 (by decide) ?_
      obtain ⟨y6, h⟩ := cp_some h
      refine g_copyi (f := (A 10)) (g := (A 7)) (js := (((p1 * 15) + 3)).toNatClampNeg) (jd := 0) (jn := 6) hx hb (hml.trans hl.1.symm) hown (hts _ mX0_take_6) (hts _ mX0_take_7) (hts _ mX0_take_8) (hts _ mX0_take_9) hK hP hD hS 18 12 (eC_18 a cy (upd (upd (upd I 10 ((A 10) ((p1 * 15)).toNatClampNeg)) 11 ((A 10) (((p1 * 15) + 1)).toNatClampNeg)) 12 ((A 10) (((p1 * 15) + 2)).toNatClampNeg)) A T) (eC_12 a cy (upd (upd (upd I 10 ((A 10) ((p1 * 15)).toNatClampNeg)) 11 ((A 10) (((p1 * 15) + 1)).toNatClampNeg)) 12 ((A 10) (((p1 * 15) + 2)).toNatClampNeg)) A T) y6 rfl rfl rfl (Nat.le_of_ble_eq_true rfl) (Nat.le_of_ble_eq_true rfl) dX0_take_66 (sC_12 a cy (upd (upd (upd I 10 ((A 10) ((p1 * 15)).toNatClampNeg)) 11 ((A 10) (((p1 * 15) + 1)).toNatClampNeg)) 12 ((A 10) (((p1 * 15) + 2)).toNatClampNeg)) A T (va_cpy (A 10) (A 7) (((p1 * 15) + 3)).toNatClampNeg 0 6)) (fun H locs hP hD hS => ?_)
      refine lv_aload_n hx hb dX0_take_69 rfl (lv_at hl 1 rfl) ?_
      refine va_get (D := (dC, dI)) (ci := 0) (v := .ref (a 18)) (C := RX0) (T := TX0) (N := 2) hx hb hts inX0_take_X0 hown hK hP 17 (eC_17 a cy (upd (upd (upd I 10 ((A 10) ((p1 * 15)).toNatClampNeg)) 11 ((A 10) (((p1 * 15) + 1)).toNatClampNeg)) 12 ((A 10) (((p1 * 15) + 2)).toNatClampNeg)) (va_up A 7 (va_cpy (A 10) (A 7) (((p1 * 15) + 3)).toNatClampNeg 0 6)) T) rfl 1 (by decide) (hts _ mX0_take_1) (fun _ h9 => h9) rfl dX0_take_70 ?_
      refine lv_iload_n hx hb dX0_take_73 rfl (lv_at hl 0 rfl) ?_
      refine lv_bipush (v := 9) hx hb dX0_take_74 (by decide) ?_
      refine lv_iadd hx hb dX0_take_76 ?_
      refine lv_aload_n hx hb dX0_take_77 rfl (lv_at hl 3 rfl) ?_
      refine va_get (D := (dC, dI)) (ci := 3) (v := .ref (a 13)) (C := RX3) (T := TX3) (N := 6) hx hb hts inX0_take_X3 hown hK hP 7 (eC_7 a cy (upd (upd (upd I 10 ((A 10) ((p1 * 15)).toNatClampNeg)) 11 ((A 10) (((p1 * 15) + 1)).toNatClampNeg)) 12 ((A 10) (((p1 * 15) + 2)).toNatClampNeg)) (va_up A 7 (va_cpy (A 10) (A 7) (((p1 * 15) + 3)).toNatClampNeg 0 6)) T) rfl 2 (by decide) (hts _ mX0_take_10) (fun _ h9 => h9) rfl dX0_take_78 ?_
      refine lv_iconst (v := 0) hx hb dX0_take_81 (by decide) ?_
      refine lv_bipush (v := 6) hx hb dX0_take_82 (by decide) ?_
      obtain ⟨y7, h⟩ := cp_some h
      refine g_copyi (f := (A 10)) (g := (A 8)) (js := (((p1 * 15) + 9)).toNatClampNeg) (jd := 0) (jn := 6) hx hb (hml.trans hl.1.symm) hown (hts _ mX0_take_6) (hts _ mX0_take_7) (hts _ mX0_take_8) (hts _ mX0_take_9) hK hP hD hS 18 13 (eC_18 a cy (upd (upd (upd I 10 ((A 10) ((p1 * 15)).toNatClampNeg)) 11 ((A 10) (((p1 * 15) + 1)).toNatClampNeg)) 12 ((A 10) (((p1 * 15) + 2)).toNatClampNeg)) (va_up A 7 (va_cpy (A 10) (A 7) (((p1 * 15) + 3)).toNatClampNeg 0 6)) T) (eC_13 a cy (upd (upd (upd I 10 ((A 10) ((p1 * 15)).toNatClampNeg)) 11 ((A 10) (((p1 * 15) + 1)).toNatClampNeg)) 12 ((A 10) (((p1 * 15) + 2)).toNatClampNeg)) (va_up A 7 (va_cpy (A 10) (A 7) (((p1 * 15) + 3)).toNatClampNeg 0 6)) T) y7 rfl rfl rfl (Nat.le_of_ble_eq_true rfl) (Nat.le_of_ble_eq_true rfl) dX0_take_84 (sC_13 a cy (upd (upd (upd I 10 ((A 10) ((p1 * 15)).toNatClampNeg)) 11 ((A 10) (((p1 * 15) + 1)).toNatClampNeg)) 12 ((A 10) (((p1 * 15) + 2)).toNatClampNeg)) (va_up A 7 (va_cpy (A 10) (A 7) (((p1 * 15) + 3)).toNatClampNeg 0 6)) T (va_cpy (A 10) (A 8) (((p1 * 15) + 9)).toNatClampNeg 0 6)) (fun H locs hP hD hS => ?_)
      obtain rfl := Option.some.inj h
      exact g_vret hx hb hr hK hP hD hS hQ dX0_take_87
    · replace h := ite_f h c2
      obtain rfl := Option.some.inj h
      exact g_vret hx hb hr hK hP hD hS hQ dX0_take_12
theorem inX7_back_X7 : ∀ w ∈ u_ws RX7 TX7 9, w ∈ wsX7_back := by decide +kernel
theorem mX7_back_0 : Cond.fieldLink RX7 46 "WarmBottles" "imageKept" "[Z" ∈ wsX7_back := List.mem_of_getElem? (i := 1) rfl
theorem mX7_back_1 : Cond.fieldLink RX7 42 "WarmBottles" "images" "LWarmBottles$Copies;" ∈ wsX7_back := List.mem_of_getElem? (i := 2) rfl
theorem mX7_back_2 : Cond.fieldLink RX7 26 "WarmBottles" "night" "LWarmBottles$Night;" ∈ wsX7_back := List.mem_of_getElem? (i := 3) rfl
theorem mX7_back_3 : Cond.fieldLink RX7 33 "WarmBottles" "past" "LWarmBottles$Past;" ∈ wsX7_back := List.mem_of_getElem? (i := 4) rfl
theorem inX7_back_X4 : ∀ w ∈ u_ws RX4 TX4 3, w ∈ wsX7_back := by decide +kernel
theorem mX7_back_4 : Cond.fieldLink RX7 86 "WarmBottles$Past" "known" "I" ∈ wsX7_back := List.mem_of_getElem? (i := 5) rfl
theorem inX7_back_X3 : ∀ w ∈ u_ws RX3 TX3 6, w ∈ wsX7_back := by decide +kernel
theorem mX7_back_5 : Cond.fieldLink RX7 117 "WarmBottles$Night" "hour" "I" ∈ wsX7_back := List.mem_of_getElem? (i := 6) rfl
def rm_X7_back_C : Room := { frames := 5, cells := 0, slots := 0, locals := 270 }
def f_X7_back_C (N : Nat) (I : Nat → Int32) (A : Nat → Nat → Int32) (p1 : Int32) : Option (Int32 × (Nat → Int32) × (Nat → Nat → Int32)) := (if p1 < 0 then some ((-1), I, A) else (if p1 < 2 then (if p1 < 0 ∨ 2 ≤ p1.toNatClampNeg then none else (if ((A 11) p1.toNatClampNeg) = 0 then some ((-2), I, A) else (Option.bind (f_X0_take_Cb N I A p1) (fun r5 => some ((r5.1 10), (upd r5.1 17 0), r5.2))))) else some ((-1), I, A)))
set_option maxHeartbeats 4000000 in
set_option maxRecDepth 100000 in
theorem c_X7_back_C (l : Launch) (dC : Nat → ClassId) (dI : Nat → Nat → Nat) (a : Nat → Nat) (cy : Nat → ClassId) (N : Nat) (I : Nat → Int32) (A : Nat → Nat → Int32) (T : Int64) (p1 : Int32) (res : Int32 × (Nat → Int32) × (Nat → Nat → Int32)) (h : f_X7_back_C N I A p1 = some res) (sz : Nat) : Met l yX7_back wsX7_back rm_X7_back_C (g_Pre (dC, dI) cy [.ref (a 0), .int p1] (wC a cy I A T) sz) (g_Qi (dC, dI) cy res.1 (wC a cy I A T) (wC a cy res.2.1 res.2.2 T) sz) 0 0 (va_A (wC a cy I A T) sz) := by
  unfold f_X7_back_C at h
  refine g_entry _ _ _ _ _ _ (cc := cX7_back) (maxL := 2) (ret := (some .int)) (by decide) rfl (Nat.le_of_ble_eq_true rfl) ?_
  intro p e s m args below meth c ls hx hb hml hown hts hr hlocks hA hK hP hD hS hl Q hQ
  have hl : lv_has ls 2 [(0, .ref (a 0)), (1, .int p1)] := hl
  have hown : s.vm.findClass RX7 = some m.cls := hown
  refine lv_iload_n hx hb dX7_back_0 rfl (lv_at hl 1 rfl) ?_
  refine lv_if_lt (tgt := 13) hx hb dX7_back_1 (by decide) (fun c1 => ?_) (fun c1 => ?_)
  · replace h := ite_t h c1
    refine lv_iconst (v := (-1)) hx hb dX7_back_13 (by decide) ?_
    obtain rfl := Option.some.inj h
    exact g_iret hx hb hr hK hP hD hS hQ dX7_back_14
  · replace h := ite_f h c1
    refine lv_iload_n hx hb dX7_back_4 rfl (lv_at hl 1 rfl) ?_
    refine lv_aload_n hx hb dX7_back_5 rfl (lv_at hl 0 rfl) ?_
    refine va_get (D := (dC, dI)) (ci := 7) (v := .ref (a 19)) (C := RX7) (T := TX7) (N := 9) hx hb hts inX7_back_X7 hown hK hP 0 (eC_0 a cy I A T) rfl 5 (by decide) (hts _ mX7_back_0) (fun _ h9 => h9) rfl dX7_back_6 ?_
    refine va_alen (v := 2) hx hb hK hP 19 2 (eC_19 a cy I A T) rfl rfl dX7_back_9 ?_
    refine lv_icmp_lt (tgt := 15) hx hb dX7_back_10 (by decide) (fun c2 => ?_) (fun c2 => ?_)
    · replace h := ite_t h c2
      refine lv_aload_n hx hb dX7_back_15 rfl (lv_at hl 0 rfl) ?_
      refine va_get (D := (dC, dI)) (ci := 7) (v := .ref (a 19)) (C := RX7) (T := TX7) (N := 9) hx hb hts inX7_back_X7 hown hK hP 0 (eC_0 a cy I A T) rfl 5 (by decide) (hts _ mX7_back_0) (fun _ h9 => h9) rfl dX7_back_16 ?_
      refine lv_iload_n hx hb dX7_back_19 rfl (lv_at hl 1 rfl) ?_
      obtain ⟨i3, h⟩ := inb_some h
      refine g_zald (f := (A 11)) (j := p1.toNatClampNeg) hx hb hK hP 19 (eC_19 a cy I A T) i3 rfl dX7_back_20 ?_
      refine lv_if_ne (tgt := 27) hx hb dX7_back_21 (by decide) (fun c4 => ?_) (fun c4 => ?_)
      · replace h := ite_f h c4
        refine lv_aload_n hx hb dX7_back_27 rfl (lv_at hl 0 rfl) ?_
        refine va_get (D := (dC, dI)) (ci := 7) (v := .ref (a 17)) (C := RX7) (T := TX7) (N := 9) hx hb hts inX7_back_X7 hown hK hP 0 (eC_0 a cy I A T) rfl 4 (by decide) (hts _ mX7_back_1) (fun _ h9 => h9) rfl dX7_back_28 ?_
        refine lv_iload_n hx hb dX7_back_31 rfl (lv_at hl 1 rfl) ?_
        refine lv_aload_n hx hb dX7_back_32 rfl (lv_at hl 0 rfl) ?_
        refine va_get (D := (dC, dI)) (ci := 7) (v := .ref (a 7)) (C := RX7) (T := TX7) (N := 9) hx hb hts inX7_back_X7 hown hK hP 0 (eC_0 a cy I A T) rfl 2 (by decide) (hts _ mX7_back_2) (fun _ h9 => h9) rfl dX7_back_33 ?_
        obtain ⟨r5, hr5, h⟩ := bnd_some h
        refine g_callVv (As := [.int p1, .ref (a 7)]) (rest := []) (ci := 0) (q0 := 17) hx hb hml hown hts (c_X0_take_Cb l dC dI a cy N I A T p1 r5 hr5) (cwV 2 hts gX7_back_X0_take rfl rfl rfl (by decide +kernel) ⟨Nat.le_of_ble_eq_true rfl, Nat.le_of_ble_eq_true rfl⟩) hK hP hD hS hA rfl (eC_17 a cy I A T) rfl rfl hl.1 rfl (Nat.le_of_ble_eq_true rfl) dX7_back_36 (fun H locs hP hD hS => ?_)
        refine lv_aload_n hx hb dX7_back_39 rfl (lv_at hl 0 rfl) ?_
        refine va_get (D := (dC, dI)) (ci := 7) (v := .ref (a 14)) (C := RX7) (T := TX7) (N := 9) hx hb hts inX7_back_X7 hown hK hP 0 (eC_0 a cy r5.1 r5.2 T) rfl 3 (by decide) (hts _ mX7_back_3) (fun _ h9 => h9) rfl dX7_back_40 ?_
        refine lv_iconst (v := 0) hx hb dX7_back_43 (by decide) ?_
        refine g_put (D := (dC, dI)) (ci := 4) (v := .int 0) (ty := .int) (C := RX4) (T := TX4) (N := 3) hx hb hts inX7_back_X4 tyX4 tyX4_ok nmX4 hown hK hP hD hS 14 (eC_14 a cy r5.1 r5.2 T) rfl 2 (by decide) (hts _ mX7_back_4) (fun _ h9 => h9) rfl (by decide +kernel) rfl rfl (Nat.le_of_ble_eq_true rfl) dX7_back_44 (pC_14_2 a cy r5.1 r5.2 T 0) (fun H locs hP hD hS => ?_)
        refine lv_aload_n hx hb dX7_back_47 rfl (lv_at hl 0 rfl) ?_
        refine va_get (D := (dC, dI)) (ci := 7) (v := .ref (a 7)) (C := RX7) (T := TX7) (N := 9) hx hb hts inX7_back_X7 hown hK hP 0 (eC_0 a cy (upd r5.1 17 0) r5.2 T) rfl 2 (by decide) (hts _ mX7_back_2) (fun _ h9 => h9) rfl dX7_back_48 ?_
        refine va_get (D := (dC, dI)) (ci := 3) (v := .int (r5.1 10)) (C := RX3) (T := TX3) (N := 6) hx hb hts inX7_back_X3 hown hK hP 7 (eC_7 a cy (upd r5.1 17 0) r5.2 T) rfl 3 (by decide) (hts _ mX7_back_5) (fun _ h9 => h9) rfl dX7_back_51 ?_
        obtain rfl := Option.some.inj h
        exact g_iret hx hb hr hK hP hD hS hQ dX7_back_54
      · replace h := ite_t h c4
        refine lv_bipush (v := (-2)) hx hb dX7_back_24 (by decide) ?_
        obtain rfl := Option.some.inj h
        exact g_iret hx hb hr hK hP hD hS hQ dX7_back_26
    · replace h := ite_f h c2
      refine lv_iconst (v := (-1)) hx hb dX7_back_13 (by decide) ?_
      obtain rfl := Option.some.inj h
      exact g_iret hx hb hr hK hP hD hS hQ dX7_back_14
theorem inX7_count_X7 : ∀ w ∈ u_ws RX7 TX7 9, w ∈ wsX7_count := by decide +kernel
theorem mX7_count_0 : Cond.fieldLink RX7 26 "WarmBottles" "night" "LWarmBottles$Night;" ∈ wsX7_count := List.mem_of_getElem? (i := 1) rfl
theorem inX7_count_X3 : ∀ w ∈ u_ws RX3 TX3 6, w ∈ wsX7_count := by decide +kernel
theorem mX7_count_1 : Cond.fieldLink RX7 76 "WarmBottles$Night" "told" "LWarmBottles$Told;" ∈ wsX7_count := List.mem_of_getElem? (i := 2) rfl
theorem inX7_count_X6 : ∀ w ∈ u_ws RX6 TX6 6, w ∈ wsX7_count := by decide +kernel
theorem mX7_count_2 : Cond.fieldLink RX7 126 "WarmBottles$Told" "bottles" "I" ∈ wsX7_count := List.mem_of_getElem? (i := 3) rfl
theorem mX7_count_3 : Cond.fieldLink RX7 147 "WarmBottles$Told" "kettle" "I" ∈ wsX7_count := List.mem_of_getElem? (i := 4) rfl
theorem mX7_count_4 : Cond.fieldLink RX7 230 "WarmBottles$Told" "pint" "I" ∈ wsX7_count := List.mem_of_getElem? (i := 5) rfl
theorem mX7_count_5 : Cond.fieldLink RX7 53 "WarmBottles" "heard" "LWarmBottles$Heard;" ∈ wsX7_count := List.mem_of_getElem? (i := 6) rfl
theorem inX7_count_X1 : ∀ w ∈ u_ws RX1 TX1 3, w ∈ wsX7_count := by decide +kernel
theorem mX7_count_6 : Cond.fieldLink RX7 89 "WarmBottles$Heard" "number" "I" ∈ wsX7_count := List.mem_of_getElem? (i := 7) rfl
theorem mX7_count_7 : Cond.fieldLink RX7 10 "WarmBottles" "text" "LWarmBottles$Text;" ∈ wsX7_count := List.mem_of_getElem? (i := 8) rfl
theorem inX7_count_X5 : ∀ w ∈ u_ws RX5 TX5 8, w ∈ wsX7_count := by decide +kernel
theorem mX7_count_8 : Cond.fieldLink RX7 64 "WarmBottles$Text" "length" "I" ∈ wsX7_count := List.mem_of_getElem? (i := 9) rfl
def rm_X7_count_C : Room := { frames := 3, cells := 0, slots := 0, locals := 210 }
def f_X7_count_C (N : Nat) (I : Nat → Int32) (A : Nat → Nat → Int32) (p1 : Int32) : Option (Int32) := (if p1 = 0 then some (I 13) else (if p1 = 1 then some (I 14) else (if p1 = 2 then some (I 15) else (if p1 = 3 then some (I 18) else (if p1 = 4 then some (I 0) else some (-1))))))
set_option maxHeartbeats 4000000 in
set_option maxRecDepth 100000 in
theorem c_X7_count_C (l : Launch) (dC : Nat → ClassId) (dI : Nat → Nat → Nat) (a : Nat → Nat) (cy : Nat → ClassId) (N : Nat) (I : Nat → Int32) (A : Nat → Nat → Int32) (T : Int64) (p1 : Int32) (res : Int32) (h : f_X7_count_C N I A p1 = some res) (sz : Nat) : Met l yX7_count wsX7_count rm_X7_count_C (g_Pre (dC, dI) cy [.ref (a 0), .int p1] (wC a cy I A T) sz) (g_Qi (dC, dI) cy res (wC a cy I A T) (wC a cy I A T) sz) 0 0 (va_A (wC a cy I A T) sz) := by
  unfold f_X7_count_C at h
  refine g_entry _ _ _ _ _ _ (cc := cX7_count) (maxL := 2) (ret := (some .int)) (by decide) rfl (Nat.le_of_ble_eq_true rfl) ?_
  intro p e s m args below meth c ls hx hb hml hown hts hr hlocks hA hK hP hD hS hl Q hQ
  have hl : lv_has ls 2 [(0, .ref (a 0)), (1, .int p1)] := hl
  have hown : s.vm.findClass RX7 = some m.cls := hown
  refine lv_iload_n hx hb dX7_count_0 rfl (lv_at hl 1 rfl) ?_
  rcases Decidable.em (p1 = 0) with c1 | c1
  · replace h := ite_t h c1
    refine lv_tableIn (off := 35) (tgt := 36) hx hb dX7_count_1 (by rw [c1]; decide) (by rw [c1]; decide) (by rw [c1]; rfl) (by decide) ?_
    refine lv_aload_n hx hb dX7_count_36 rfl (lv_at hl 0 rfl) ?_
    refine va_get (D := (dC, dI)) (ci := 7) (v := .ref (a 7)) (C := RX7) (T := TX7) (N := 9) hx hb hts inX7_count_X7 hown hK hP 0 (eC_0 a cy I A T) rfl 2 (by decide) (hts _ mX7_count_0) (fun _ h9 => h9) rfl dX7_count_37 ?_
    refine va_get (D := (dC, dI)) (ci := 3) (v := .ref (a 8)) (C := RX3) (T := TX3) (N := 6) hx hb hts inX7_count_X3 hown hK hP 7 (eC_7 a cy I A T) rfl 0 (by decide) (hts _ mX7_count_1) (fun _ h9 => h9) rfl dX7_count_40 ?_
    refine va_get (D := (dC, dI)) (ci := 6) (v := .int (I 13)) (C := RX6) (T := TX6) (N := 6) hx hb hts inX7_count_X6 hown hK hP 8 (eC_8 a cy I A T) rfl 3 (by decide) (hts _ mX7_count_2) (fun _ h9 => h9) rfl dX7_count_43 ?_
    obtain rfl := Option.some.inj h
    exact g_iret hx hb hr hK hP hD hS hQ dX7_count_46
  · replace h := ite_f h c1
    rcases Decidable.em (p1 = 1) with c2 | c2
    · replace h := ite_t h c2
      refine lv_tableIn (off := 46) (tgt := 47) hx hb dX7_count_1 (by rw [c2]; decide) (by rw [c2]; decide) (by rw [c2]; rfl) (by decide) ?_
      refine lv_aload_n hx hb dX7_count_47 rfl (lv_at hl 0 rfl) ?_
      refine va_get (D := (dC, dI)) (ci := 7) (v := .ref (a 7)) (C := RX7) (T := TX7) (N := 9) hx hb hts inX7_count_X7 hown hK hP 0 (eC_0 a cy I A T) rfl 2 (by decide) (hts _ mX7_count_0) (fun _ h9 => h9) rfl dX7_count_48 ?_
      refine va_get (D := (dC, dI)) (ci := 3) (v := .ref (a 8)) (C := RX3) (T := TX3) (N := 6) hx hb hts inX7_count_X3 hown hK hP 7 (eC_7 a cy I A T) rfl 0 (by decide) (hts _ mX7_count_1) (fun _ h9 => h9) rfl dX7_count_51 ?_
      refine va_get (D := (dC, dI)) (ci := 6) (v := .int (I 14)) (C := RX6) (T := TX6) (N := 6) hx hb hts inX7_count_X6 hown hK hP 8 (eC_8 a cy I A T) rfl 4 (by decide) (hts _ mX7_count_3) (fun _ h9 => h9) rfl dX7_count_54 ?_
      obtain rfl := Option.some.inj h
      exact g_iret hx hb hr hK hP hD hS hQ dX7_count_57
    · replace h := ite_f h c2
      rcases Decidable.em (p1 = 2) with c3 | c3
      · replace h := ite_t h c3
        refine lv_tableIn (off := 57) (tgt := 58) hx hb dX7_count_1 (by rw [c3]; decide) (by rw [c3]; decide) (by rw [c3]; rfl) (by decide) ?_
        refine lv_aload_n hx hb dX7_count_58 rfl (lv_at hl 0 rfl) ?_
        refine va_get (D := (dC, dI)) (ci := 7) (v := .ref (a 7)) (C := RX7) (T := TX7) (N := 9) hx hb hts inX7_count_X7 hown hK hP 0 (eC_0 a cy I A T) rfl 2 (by decide) (hts _ mX7_count_0) (fun _ h9 => h9) rfl dX7_count_59 ?_
        refine va_get (D := (dC, dI)) (ci := 3) (v := .ref (a 8)) (C := RX3) (T := TX3) (N := 6) hx hb hts inX7_count_X3 hown hK hP 7 (eC_7 a cy I A T) rfl 0 (by decide) (hts _ mX7_count_1) (fun _ h9 => h9) rfl dX7_count_62 ?_
        refine va_get (D := (dC, dI)) (ci := 6) (v := .int (I 15)) (C := RX6) (T := TX6) (N := 6) hx hb hts inX7_count_X6 hown hK hP 8 (eC_8 a cy I A T) rfl 5 (by decide) (hts _ mX7_count_4) (fun _ h9 => h9) rfl dX7_count_65 ?_
        obtain rfl := Option.some.inj h
        exact g_iret hx hb hr hK hP hD hS hQ dX7_count_68
      · replace h := ite_f h c3
        rcases Decidable.em (p1 = 3) with c4 | c4
        · replace h := ite_t h c4
          refine lv_tableIn (off := 68) (tgt := 69) hx hb dX7_count_1 (by rw [c4]; decide) (by rw [c4]; decide) (by rw [c4]; rfl) (by decide) ?_
          refine lv_aload_n hx hb dX7_count_69 rfl (lv_at hl 0 rfl) ?_
          refine va_get (D := (dC, dI)) (ci := 7) (v := .ref (a 20)) (C := RX7) (T := TX7) (N := 9) hx hb hts inX7_count_X7 hown hK hP 0 (eC_0 a cy I A T) rfl 6 (by decide) (hts _ mX7_count_5) (fun _ h9 => h9) rfl dX7_count_70 ?_
          refine va_get (D := (dC, dI)) (ci := 1) (v := .int (I 18)) (C := RX1) (T := TX1) (N := 3) hx hb hts inX7_count_X1 hown hK hP 20 (eC_20 a cy I A T) rfl 2 (by decide) (hts _ mX7_count_6) (fun _ h9 => h9) rfl dX7_count_73 ?_
          obtain rfl := Option.some.inj h
          exact g_iret hx hb hr hK hP hD hS hQ dX7_count_76
        · replace h := ite_f h c4
          rcases Decidable.em (p1 = 4) with c5 | c5
          · replace h := ite_t h c5
            refine lv_tableIn (off := 76) (tgt := 77) hx hb dX7_count_1 (by rw [c5]; decide) (by rw [c5]; decide) (by rw [c5]; rfl) (by decide) ?_
            refine lv_aload_n hx hb dX7_count_77 rfl (lv_at hl 0 rfl) ?_
            refine va_get (D := (dC, dI)) (ci := 7) (v := .ref (a 1)) (C := RX7) (T := TX7) (N := 9) hx hb hts inX7_count_X7 hown hK hP 0 (eC_0 a cy I A T) rfl 0 (by decide) (hts _ mX7_count_7) (fun _ h9 => h9) rfl dX7_count_78 ?_
            refine va_get (D := (dC, dI)) (ci := 5) (v := .int (I 0)) (C := RX5) (T := TX5) (N := 8) hx hb hts inX7_count_X5 hown hK hP 1 (eC_1 a cy I A T) rfl 1 (by decide) (hts _ mX7_count_8) (fun _ h9 => h9) rfl dX7_count_81 ?_
            obtain rfl := Option.some.inj h
            exact g_iret hx hb hr hK hP hD hS hQ dX7_count_84
          · replace h := ite_f h c5
            refine lv_tableOut (tgt := 85) hx hb dX7_count_1 (by have q0 := lv_neT (a := 0) c1 rfl; have q1 := lv_neT (a := 1) c2 rfl; have q2 := lv_neT (a := 2) c3 rfl; have q3 := lv_neT (a := 3) c4 rfl; have q4 := lv_neT (a := 4) c5 rfl; omega) (by decide) ?_
            refine lv_iconst (v := (-1)) hx hb dX7_count_85 (by decide) ?_
            obtain rfl := Option.some.inj h
            exact g_iret hx hb hr hK hP hD hS hQ dX7_count_86
theorem inX7_trace_X7 : ∀ w ∈ u_ws RX7 TX7 9, w ∈ wsX7_trace := by decide +kernel
theorem mX7_trace_0 : Cond.fieldLink RX7 209 "WarmBottles" "trace" "J" ∈ wsX7_trace := List.mem_of_getElem? (i := 1) rfl
def rm_X7_trace_C : Room := { frames := 3, cells := 0, slots := 0, locals := 210 }
def f_X7_trace_C (N : Nat) (I : Nat → Int32) (A : Nat → Nat → Int32) (T : Int64)  : Option (Int64) := some T
set_option maxHeartbeats 4000000 in
set_option maxRecDepth 100000 in
theorem c_X7_trace_C (l : Launch) (dC : Nat → ClassId) (dI : Nat → Nat → Nat) (a : Nat → Nat) (cy : Nat → ClassId) (N : Nat) (I : Nat → Int32) (A : Nat → Nat → Int32) (T : Int64)  (res : Int64) (h : f_X7_trace_C N I A T  = some res) (sz : Nat) : Met l yX7_trace wsX7_trace rm_X7_trace_C (g_Pre (dC, dI) cy [.ref (a 0)] (wC a cy I A T) sz) (g_Ql (dC, dI) cy res (wC a cy I A T) (wC a cy I A T) sz) 0 0 (va_A (wC a cy I A T) sz) := by
  unfold f_X7_trace_C at h
  refine g_entry _ _ _ _ _ _ (cc := cX7_trace) (maxL := 1) (ret := (some .long)) (by decide) rfl (Nat.le_of_ble_eq_true rfl) ?_
  intro p e s m args below meth c ls hx hb hml hown hts hr hlocks hA hK hP hD hS hl Q hQ
  have hl : lv_has ls 1 [(0, .ref (a 0))] := hl
  have hown : s.vm.findClass RX7 = some m.cls := hown
  refine lv_aload_n hx hb dX7_trace_0 rfl (lv_at hl 0 rfl) ?_
  refine va_get (D := (dC, dI)) (ci := 7) (v := .long T) (C := RX7) (T := TX7) (N := 9) hx hb hts inX7_trace_X7 hown hK hP 0 (eC_0 a cy I A T) rfl 8 (by decide) (hts _ mX7_trace_0) (fun _ h9 => h9) rfl dX7_trace_1 ?_
  obtain rfl := Option.some.inj h
  exact g_lret hx hb hr hK hP hD hS hQ dX7_trace_4
