theorem inX7_beds_X7 : ∀ w ∈ u_ws RX7 TX7 9, w ∈ wsX7_beds := by decide +kernel
theorem mX7_beds_0 : Cond.fieldLink RX7 26 "WarmBottles" "night" "LWarmBottles$Night;" ∈ wsX7_beds := List.mem_of_getElem? (i := 1) rfl
theorem inX7_beds_X3 : ∀ w ∈ u_ws RX3 TX3 6, w ∈ wsX7_beds := by decide +kernel
theorem mX7_beds_1 : Cond.fieldLink RX7 78 "WarmBottles$Night" "told" "LWarmBottles$Told;" ∈ wsX7_beds := List.mem_of_getElem? (i := 2) rfl
theorem inX7_beds_X6 : ∀ w ∈ u_ws RX6 TX6 6, w ∈ wsX7_beds := by decide +kernel
theorem mX7_beds_2 : Cond.fieldLink RX7 128 "WarmBottles$Told" "bottles" "I" ∈ wsX7_beds := List.mem_of_getElem? (i := 3) rfl
theorem mX7_beds_3 : Cond.fieldLink RX7 165 "WarmBottles" "ONE_BED" "[I" ∈ wsX7_beds := List.mem_of_getElem? (i := 4) rfl
def rm_X7_beds_C : Room := { frames := 9, cells := 0, slots := 0, locals := 390 }
def f_X7_beds_C (N : Nat) (I : Nat → Int32) (A : Nat → Nat → Int32) (p1 : Int32) : Option (Int32) := (if p1 = (-1) then (if (I 13) = 0 then some (-9) else (Option.bind (f_X3_allLast_Ct N I A) (fun r4 => some r4))) else (Option.bind (f_X3_has_C N I A p1) (fun r5 => (if r5 = 0 then some (-1) else (if (I 13) = 0 then some (-9) else some 0)))))
set_option maxHeartbeats 4000000 in
set_option maxRecDepth 100000 in
theorem c_X7_beds_C (l : Launch) (dC : Nat → ClassId) (dI : Nat → Nat → Nat) (a : Nat → Nat) (cy : Nat → ClassId) (tb : Nat) (N : Nat) (I : Nat → Int32) (A : Nat → Nat → Int32) (T : Int64) (p1 : Int32) (res : Int32) (h : f_X7_beds_C N I A p1 = some res) (sz : Nat) : Met l yX7_beds wsX7_beds rm_X7_beds_C (g_PreT (dC, dI) cy tb [.ref (a 0), .int p1] (wC a cy I A T) sz) (g_Qi (dC, dI) cy res (wC a cy I A T) (wC a cy I A T) sz) 0 0 (va_A (wC a cy I A T) sz) := by
  unfold f_X7_beds_C at h
  refine g_entryT _ _ _ _ _ _ _ (cc := cX7_beds) (maxL := 2) (ret := (some .int)) (by decide) rfl (Nat.le_of_ble_eq_true rfl) ?_
  intro p e s m args below meth c ls hx hb hml hown hts hr hlocks hA hK hP hD hS hl hT hZ Q hQ
  have hl : lv_has ls 2 [(0, .ref (a 0)), (1, .int p1)] := hl
  have hown : s.vm.findClass RX7 = some m.cls := hown
  refine lv_iload_n hx hb dX7_beds_0 rfl (lv_at hl 1 rfl) ?_
  refine lv_iconst (v := (-1)) hx hb dX7_beds_1 (by decide) ?_
  refine lv_icmp_eq (tgt := 18) hx hb dX7_beds_2 (by decide) (fun c1 => ?_) (fun c1 => ?_)
  · replace h := ite_t h c1
    refine lv_aload_n hx hb dX7_beds_18 rfl (lv_at hl 0 rfl) ?_
    refine va_get (D := (dC, dI)) (ci := 7) (v := .ref (a 7)) (C := RX7) (T := TX7) (N := 9) hx hb hts inX7_beds_X7 hown hK hP 0 (eC_0 a cy I A T) rfl 2 (by decide) (hts _ mX7_beds_0) (fun _ h9 => h9) rfl dX7_beds_19 ?_
    refine va_get (D := (dC, dI)) (ci := 3) (v := .ref (a 8)) (C := RX3) (T := TX3) (N := 6) hx hb hts inX7_beds_X3 hown hK hP 7 (eC_7 a cy I A T) rfl 0 (by decide) (hts _ mX7_beds_1) (fun _ h9 => h9) rfl dX7_beds_22 ?_
    refine va_get (D := (dC, dI)) (ci := 6) (v := .int (I 13)) (C := RX6) (T := TX6) (N := 6) hx hb hts inX7_beds_X6 hown hK hP 8 (eC_8 a cy I A T) rfl 3 (by decide) (hts _ mX7_beds_2) (fun _ h9 => h9) rfl dX7_beds_25 ?_
    refine lv_if_ne (tgt := 34) hx hb dX7_beds_28 (by decide) (fun c2 => ?_) (fun c2 => ?_)
    · replace h := ite_f h c2
      refine lv_iload_n hx hb dX7_beds_34 rfl (lv_at hl 1 rfl) ?_
      refine lv_iconst (v := (-1)) hx hb dX7_beds_35 (by decide) ?_
      refine lv_icmp_ne (tgt := 52) hx hb dX7_beds_36 (by decide) (fun c3 => absurd c1 c3) (fun _ => ?_)
      refine lv_aload_n hx hb dX7_beds_39 rfl (lv_at hl 0 rfl) ?_
      refine va_get (D := (dC, dI)) (ci := 7) (v := .ref (a 7)) (C := RX7) (T := TX7) (N := 9) hx hb hts inX7_beds_X7 hown hK hP 0 (eC_0 a cy I A T) rfl 2 (by decide) (hts _ mX7_beds_0) (fun _ h9 => h9) rfl dX7_beds_40 ?_
      refine va_gets hx hb hZ hS hown (hts _ mX7_beds_3) (fun _ h9 => h9) dX7_beds_43 ?_
      obtain ⟨r4, hr4, h⟩ := bnd_some h
      refine g_callViT (As := [.ref tb]) (rest := []) (ci := 3) (q0 := 7) hx hb hml hown hts (c_X3_allLast_Ct l dC dI a cy tb N I A T r4 hr4) (cwV 1 hts gX7_beds_X3_allLast rfl rfl rfl (by decide +kernel) ⟨Nat.le_of_ble_eq_true rfl, Nat.le_of_ble_eq_true rfl⟩) hK hP hD hS hA hT hZ rfl (eC_7 a cy I A T) rfl rfl hl.1 rfl (Nat.le_of_ble_eq_true rfl) dX7_beds_46 (fun H locs hP hD hS => ?_)
      refine lv_goto (tgt := 53) hx hb dX7_beds_49 (by decide) ?_
      cases h
      exact g_iret hx hb hr hK hP hD hS hQ dX7_beds_53
    · replace h := ite_t h c2
      refine lv_bipush (v := (-9)) hx hb dX7_beds_31 (by decide) ?_
      cases h
      exact g_iret hx hb hr hK hP hD hS hQ dX7_beds_33
  · replace h := ite_f h c1
    refine lv_aload_n hx hb dX7_beds_5 rfl (lv_at hl 0 rfl) ?_
    refine va_get (D := (dC, dI)) (ci := 7) (v := .ref (a 7)) (C := RX7) (T := TX7) (N := 9) hx hb hts inX7_beds_X7 hown hK hP 0 (eC_0 a cy I A T) rfl 2 (by decide) (hts _ mX7_beds_0) (fun _ h9 => h9) rfl dX7_beds_6 ?_
    refine lv_iload_n hx hb dX7_beds_9 rfl (lv_at hl 1 rfl) ?_
    obtain ⟨r5, hr5, h⟩ := bnd_some h
    refine g_callVi (As := [.int p1]) (rest := []) (ci := 3) (q0 := 7) hx hb hml hown hts (c_X3_has_C l dC dI a cy N I A T p1 r5 hr5) (cwV 1 hts gX7_beds_X3_has rfl rfl rfl (by decide +kernel) ⟨Nat.le_of_ble_eq_true rfl, Nat.le_of_ble_eq_true rfl⟩) hK hP hD hS hA rfl (eC_7 a cy I A T) rfl rfl hl.1 rfl (Nat.le_of_ble_eq_true rfl) dX7_beds_10 (fun H locs hP hD hS => ?_)
    refine lv_if_ne (tgt := 18) hx hb dX7_beds_13 (by decide) (fun c6 => ?_) (fun c6 => ?_)
    · replace h := ite_f h c6
      refine lv_aload_n hx hb dX7_beds_18 rfl (lv_at hl 0 rfl) ?_
      refine va_get (D := (dC, dI)) (ci := 7) (v := .ref (a 7)) (C := RX7) (T := TX7) (N := 9) hx hb hts inX7_beds_X7 hown hK hP 0 (eC_0 a cy I A T) rfl 2 (by decide) (hts _ mX7_beds_0) (fun _ h9 => h9) rfl dX7_beds_19 ?_
      refine va_get (D := (dC, dI)) (ci := 3) (v := .ref (a 8)) (C := RX3) (T := TX3) (N := 6) hx hb hts inX7_beds_X3 hown hK hP 7 (eC_7 a cy I A T) rfl 0 (by decide) (hts _ mX7_beds_1) (fun _ h9 => h9) rfl dX7_beds_22 ?_
      refine va_get (D := (dC, dI)) (ci := 6) (v := .int (I 13)) (C := RX6) (T := TX6) (N := 6) hx hb hts inX7_beds_X6 hown hK hP 8 (eC_8 a cy I A T) rfl 3 (by decide) (hts _ mX7_beds_2) (fun _ h9 => h9) rfl dX7_beds_25 ?_
      refine lv_if_ne (tgt := 34) hx hb dX7_beds_28 (by decide) (fun c7 => ?_) (fun c7 => ?_)
      · replace h := ite_f h c7
        refine lv_iload_n hx hb dX7_beds_34 rfl (lv_at hl 1 rfl) ?_
        refine lv_iconst (v := (-1)) hx hb dX7_beds_35 (by decide) ?_
        refine lv_icmp_ne (tgt := 52) hx hb dX7_beds_36 (by decide) (fun _ => ?_) (fun c8 => absurd c8 c1)
        refine lv_iconst (v := 0) hx hb dX7_beds_52 (by decide) ?_
        cases h
        exact g_iret hx hb hr hK hP hD hS hQ dX7_beds_53
      · replace h := ite_t h c7
        refine lv_bipush (v := (-9)) hx hb dX7_beds_31 (by decide) ?_
        cases h
        exact g_iret hx hb hr hK hP hD hS hQ dX7_beds_33
    · replace h := ite_t h c6
      refine lv_iconst (v := (-1)) hx hb dX7_beds_16 (by decide) ?_
      cases h
      exact g_iret hx hb hr hK hP hD hS hQ dX7_beds_17
def rm_X3_waysFrom_C (d : Nat) : Room := { frames := 2 * d + 2, cells := 0, slots := 0, locals := 64 * d + 64 }
def f_X3_waysFrom_C (N : Nat) : Nat → (Nat → Int32) → (Nat → Nat → Int32) → Int32 → Int32 → Int32 → Int32 → Int32 → Option (Int32)
  | 0, _, _, _, _, _, _, _ => none
  | d + 1, I, A, p0, p1, p2, p3, p4 => (if 0 < p0 then (if 0 < p1 then (Option.bind (f_X3_waysFrom_C N d I A (p0 - p3) (p1 - 1) p2 p3 p4) (fun r3 => (Option.bind (f_X3_waysFrom_C N d I A (p0 - p4) (p1 - 1) p2 p3 p4) (fun r4 => some (((10 - p2) * r3) + (p2 * r4)))))) else some 1) else some 0)
set_option maxHeartbeats 4000000 in
set_option maxRecDepth 100000 in
theorem c_X3_waysFrom_C (l : Launch) (dC : Nat → ClassId) (dI : Nat → Nat → Nat) (a : Nat → Nat) (cy : Nat → ClassId) (N : Nat) : ∀ (d : Nat) (I : Nat → Int32) (A : Nat → Nat → Int32) (T : Int64) (p0 : Int32) (p1 : Int32) (p2 : Int32) (p3 : Int32) (p4 : Int32) (res : Int32), f_X3_waysFrom_C N d I A p0 p1 p2 p3 p4 = some res → ∀ sz : Nat, Met l yX3_waysFrom wsX3_waysFrom (rm_X3_waysFrom_C d) (g_Pre (dC, dI) cy [.int p0, .int p1, .int p2, .int p3, .int p4] (wC a cy I A T) sz) (g_Qi (dC, dI) cy res (wC a cy I A T) (wC a cy I A T) sz) 0 0 (va_A (wC a cy I A T) sz) := by
  intro d
  induction d with
  | zero =>
    intro I A T p0 p1 p2 p3 p4 res h
    exact absurd h (by rw [f_X3_waysFrom_C]; exact fun q => by cases q)
  | succ d ihd =>
    intro I A T p0 p1 p2 p3 p4 res h sz
    rw [f_X3_waysFrom_C] at h
    refine g_entry _ _ _ _ _ _ (cc := cX3_waysFrom) (maxL := 5) (ret := (some .int)) (by decide) rfl (Nat.le_of_ble_eq_true rfl) ?_
    intro p e s m args below meth c ls hx hb hml hown hts hr hlocks hA hK hP hD hS hl Q hQ
    have hl : lv_has ls 5 [(0, .int p0), (1, .int p1), (2, .int p2), (3, .int p3), (4, .int p4)] := hl
    have hown : s.vm.findClass RX3 = some m.cls := hown
    refine lv_iload_n hx hb dX3_waysFrom_0 rfl (lv_at hl 0 rfl) ?_
    refine lv_if_gt (tgt := 6) hx hb dX3_waysFrom_1 (by decide) (fun c1 => ?_) (fun c1 => ?_)
    · replace h := ite_t h c1
      refine lv_iload_n hx hb dX3_waysFrom_6 rfl (lv_at hl 1 rfl) ?_
      refine lv_if_gt (tgt := 12) hx hb dX3_waysFrom_7 (by decide) (fun c2 => ?_) (fun c2 => ?_)
      · replace h := ite_t h c2
        refine lv_bipush (v := 10) hx hb dX3_waysFrom_12 (by decide) ?_
        refine lv_iload_n hx hb dX3_waysFrom_14 rfl (lv_at hl 2 rfl) ?_
        refine lv_isub hx hb dX3_waysFrom_15 ?_
        refine lv_iload_n hx hb dX3_waysFrom_16 rfl (lv_at hl 0 rfl) ?_
        refine lv_iload_n hx hb dX3_waysFrom_17 rfl (lv_at hl 3 rfl) ?_
        refine lv_isub hx hb dX3_waysFrom_18 ?_
        refine lv_iload_n hx hb dX3_waysFrom_19 rfl (lv_at hl 1 rfl) ?_
        refine lv_iconst (v := 1) hx hb dX3_waysFrom_20 (by decide) ?_
        refine lv_isub hx hb dX3_waysFrom_21 ?_
        refine lv_iload_n hx hb dX3_waysFrom_22 rfl (lv_at hl 2 rfl) ?_
        refine lv_iload_n hx hb dX3_waysFrom_23 rfl (lv_at hl 3 rfl) ?_
        refine lv_iload hx hb dX3_waysFrom_24 (lv_at hl 4 rfl) ?_
        obtain ⟨r3, hr3, h⟩ := bnd_some h
        refine g_callSi (As := [.int (p0 - p3), .int (p1 - 1), .int p2, .int p3, .int p4]) (rest := [.int (10 - p2)]) hx hb hml hown hts (ihd I A T (p0 - p3) (p1 - 1) p2 p3 p4 r3 hr3) (va_cwS 5 hts gX3_waysFrom_X3_waysFrom rfl rfl rfl (by decide +kernel) ⟨by show _ + 1 ≤ _; simp only [rm_X3_waysFrom_C, rm_X3_waysFrom_C, headSpec]; omega, by show 8 + (_ + 11) + _ ≤ _; simp only [rm_X3_waysFrom_C, rm_X3_waysFrom_C, headSpec]; omega⟩) hK hP hD hS hA rfl hl.1 rfl (Nat.le_of_ble_eq_true rfl) dX3_waysFrom_26 (fun H locs hP hD hS => ?_)
        refine lv_imul hx hb dX3_waysFrom_29 ?_
        refine lv_iload_n hx hb dX3_waysFrom_30 rfl (lv_at hl 2 rfl) ?_
        refine lv_iload_n hx hb dX3_waysFrom_31 rfl (lv_at hl 0 rfl) ?_
        refine lv_iload hx hb dX3_waysFrom_32 (lv_at hl 4 rfl) ?_
        refine lv_isub hx hb dX3_waysFrom_34 ?_
        refine lv_iload_n hx hb dX3_waysFrom_35 rfl (lv_at hl 1 rfl) ?_
        refine lv_iconst (v := 1) hx hb dX3_waysFrom_36 (by decide) ?_
        refine lv_isub hx hb dX3_waysFrom_37 ?_
        refine lv_iload_n hx hb dX3_waysFrom_38 rfl (lv_at hl 2 rfl) ?_
        refine lv_iload_n hx hb dX3_waysFrom_39 rfl (lv_at hl 3 rfl) ?_
        refine lv_iload hx hb dX3_waysFrom_40 (lv_at hl 4 rfl) ?_
        obtain ⟨r4, hr4, h⟩ := bnd_some h
        refine g_callSi (As := [.int (p0 - p4), .int (p1 - 1), .int p2, .int p3, .int p4]) (rest := [.int p2, .int ((10 - p2) * r3)]) hx hb hml hown hts (ihd I A T (p0 - p4) (p1 - 1) p2 p3 p4 r4 hr4) (va_cwS 5 hts gX3_waysFrom_X3_waysFrom rfl rfl rfl (by decide +kernel) ⟨by show _ + 1 ≤ _; simp only [rm_X3_waysFrom_C, rm_X3_waysFrom_C, headSpec]; omega, by show 8 + (_ + 11) + _ ≤ _; simp only [rm_X3_waysFrom_C, rm_X3_waysFrom_C, headSpec]; omega⟩) hK hP hD hS hA rfl hl.1 rfl (Nat.le_of_ble_eq_true rfl) dX3_waysFrom_42 (fun H locs hP hD hS => ?_)
        refine lv_imul hx hb dX3_waysFrom_45 ?_
        refine lv_iadd hx hb dX3_waysFrom_46 ?_
        cases h
        exact g_iret hx hb hr hK hP hD hS hQ dX3_waysFrom_47
      · replace h := ite_f h c2
        refine lv_iconst (v := 1) hx hb dX3_waysFrom_10 (by decide) ?_
        cases h
        exact g_iret hx hb hr hK hP hD hS hQ dX3_waysFrom_11
    · replace h := ite_f h c1
      refine lv_iconst (v := 0) hx hb dX3_waysFrom_4 (by decide) ?_
      cases h
      exact g_iret hx hb hr hK hP hD hS hQ dX3_waysFrom_5
theorem inX3_waysStillWarm_X3 : ∀ w ∈ u_ws RX3 TX3 6, w ∈ wsX3_waysStillWarm := by decide +kernel
theorem mX3_waysStillWarm_0 : Cond.fieldLink RX3 22 "WarmBottles$Night" "bed" "[I" ∈ wsX3_waysStillWarm := List.mem_of_getElem? (i := 1) rfl
theorem mX3_waysStillWarm_1 : Cond.fieldLink RX3 32 "WarmBottles$Night" "frost" "I" ∈ wsX3_waysStillWarm := List.mem_of_getElem? (i := 2) rfl
theorem mX3_waysStillWarm_2 : Cond.fieldLink RX3 18 "WarmBottles$Night" "warm" "[I" ∈ wsX3_waysStillWarm := List.mem_of_getElem? (i := 3) rfl
def rm_X3_waysStillWarm_C : Room := { frames := 24, cells := 0, slots := 0, locals := 764 }
def f_X3_waysStillWarm_C (N : Nat) (I : Nat → Int32) (A : Nat → Nat → Int32) (p1 : Int32) (p2 : Int32) (p3 : Int32) : Option (Int32) := (Option.bind (f_X3_loss_C N I A p1 (I 11)) (fun r1 => (Option.bind (f_X3_loss_C N I A p1 ((I 11) + 5)) (fun r2 => (if p1 < 0 ∨ 6 ≤ p1.toNatClampNeg then none else (Option.bind (f_X3_waysFrom_C N 10 I A ((A 7) p1.toNatClampNeg) p3 p2 r1 r2) (fun r4 => some r4)))))))
set_option maxHeartbeats 4000000 in
set_option maxRecDepth 100000 in
theorem c_X3_waysStillWarm_C (l : Launch) (dC : Nat → ClassId) (dI : Nat → Nat → Nat) (a : Nat → Nat) (cy : Nat → ClassId) (N : Nat) (I : Nat → Int32) (A : Nat → Nat → Int32) (T : Int64) (p1 : Int32) (p2 : Int32) (p3 : Int32) (res : Int32) (h : f_X3_waysStillWarm_C N I A p1 p2 p3 = some res) (sz : Nat) : Met l yX3_waysStillWarm wsX3_waysStillWarm rm_X3_waysStillWarm_C (g_Pre (dC, dI) cy [.ref (a 7), .int p1, .int p2, .int p3] (wC a cy I A T) sz) (g_Qi (dC, dI) cy res (wC a cy I A T) (wC a cy I A T) sz) 0 0 (va_A (wC a cy I A T) sz) := by
  unfold f_X3_waysStillWarm_C at h
  refine g_entry _ _ _ _ _ _ (cc := cX3_waysStillWarm) (maxL := 6) (ret := (some .int)) (by decide) rfl (Nat.le_of_ble_eq_true rfl) ?_
  intro p e s m args below meth c ls hx hb hml hown hts hr hlocks hA hK hP hD hS hl Q hQ
  have hl : lv_has ls 6 [(0, .ref (a 7)), (1, .int p1), (2, .int p2), (3, .int p3)] := hl
  have hown : s.vm.findClass RX3 = some m.cls := hown
  refine lv_aload_n hx hb dX3_waysStillWarm_0 rfl (lv_at hl 0 rfl) ?_
  refine lv_iload_n hx hb dX3_waysStillWarm_1 rfl (lv_at hl 1 rfl) ?_
  refine lv_aload_n hx hb dX3_waysStillWarm_2 rfl (lv_at hl 0 rfl) ?_
  refine va_get (D := (dC, dI)) (ci := 3) (v := .ref (a 13)) (C := RX3) (T := TX3) (N := 6) hx hb hts inX3_waysStillWarm_X3 hown hK hP 7 (eC_7 a cy I A T) rfl 2 (by decide) (hts _ mX3_waysStillWarm_0) (fun _ h9 => h9) rfl dX3_waysStillWarm_3 ?_
  refine lv_aload_n hx hb dX3_waysStillWarm_6 rfl (lv_at hl 0 rfl) ?_
  refine va_get (D := (dC, dI)) (ci := 3) (v := .int (I 11)) (C := RX3) (T := TX3) (N := 6) hx hb hts inX3_waysStillWarm_X3 hown hK hP 7 (eC_7 a cy I A T) rfl 4 (by decide) (hts _ mX3_waysStillWarm_1) (fun _ h9 => h9) rfl dX3_waysStillWarm_7 ?_
  obtain ⟨r1, hr1, h⟩ := bnd_some h
  refine g_callVi (As := [.int p1, .ref (a 13), .int (I 11)]) (rest := []) (ci := 3) (q0 := 7) hx hb hml hown hts (c_X3_loss_C l dC dI a cy N I A T p1 (I 11) r1 hr1) (cwV 3 hts gX3_waysStillWarm_X3_loss rfl rfl rfl (by decide +kernel) ⟨Nat.le_of_ble_eq_true rfl, Nat.le_of_ble_eq_true rfl⟩) hK hP hD hS hA rfl (eC_7 a cy I A T) rfl rfl hl.1 rfl (Nat.le_of_ble_eq_true rfl) dX3_waysStillWarm_10 (fun H locs hP hD hS => ?_)
  refine lv_istore (lv' := [(4, .int r1), (0, .ref (a 7)), (1, .int p1), (2, .int p2), (3, .int p3)]) hx hb dX3_waysStillWarm_13 hl (by decide) rfl (fun ls hl => ?_)
  refine lv_aload_n hx hb dX3_waysStillWarm_15 rfl (lv_at hl 1 rfl) ?_
  refine lv_iload_n hx hb dX3_waysStillWarm_16 rfl (lv_at hl 2 rfl) ?_
  refine lv_aload_n hx hb dX3_waysStillWarm_17 rfl (lv_at hl 1 rfl) ?_
  refine va_get (D := (dC, dI)) (ci := 3) (v := .ref (a 13)) (C := RX3) (T := TX3) (N := 6) hx hb hts inX3_waysStillWarm_X3 hown hK hP 7 (eC_7 a cy I A T) rfl 2 (by decide) (hts _ mX3_waysStillWarm_0) (fun _ h9 => h9) rfl dX3_waysStillWarm_18 ?_
  refine lv_aload_n hx hb dX3_waysStillWarm_21 rfl (lv_at hl 1 rfl) ?_
  refine va_get (D := (dC, dI)) (ci := 3) (v := .int (I 11)) (C := RX3) (T := TX3) (N := 6) hx hb hts inX3_waysStillWarm_X3 hown hK hP 7 (eC_7 a cy I A T) rfl 4 (by decide) (hts _ mX3_waysStillWarm_1) (fun _ h9 => h9) rfl dX3_waysStillWarm_22 ?_
  refine lv_iconst (v := 5) hx hb dX3_waysStillWarm_25 (by decide) ?_
  refine lv_iadd hx hb dX3_waysStillWarm_26 ?_
  obtain ⟨r2, hr2, h⟩ := bnd_some h
  refine g_callVi (As := [.int p1, .ref (a 13), .int ((I 11) + 5)]) (rest := []) (ci := 3) (q0 := 7) hx hb hml hown hts (c_X3_loss_C l dC dI a cy N I A T p1 ((I 11) + 5) r2 hr2) (cwV 3 hts gX3_waysStillWarm_X3_loss rfl rfl rfl (by decide +kernel) ⟨Nat.le_of_ble_eq_true rfl, Nat.le_of_ble_eq_true rfl⟩) hK hP hD hS hA rfl (eC_7 a cy I A T) rfl rfl hl.1 rfl (Nat.le_of_ble_eq_true rfl) dX3_waysStillWarm_27 (fun H locs hP hD hS => ?_)
  refine lv_istore (lv' := [(5, .int r2), (4, .int r1), (0, .ref (a 7)), (1, .int p1), (2, .int p2), (3, .int p3)]) hx hb dX3_waysStillWarm_30 hl (by decide) rfl (fun ls hl => ?_)
  refine lv_aload_n hx hb dX3_waysStillWarm_32 rfl (lv_at hl 2 rfl) ?_
  refine va_get (D := (dC, dI)) (ci := 3) (v := .ref (a 12)) (C := RX3) (T := TX3) (N := 6) hx hb hts inX3_waysStillWarm_X3 hown hK hP 7 (eC_7 a cy I A T) rfl 1 (by decide) (hts _ mX3_waysStillWarm_2) (fun _ h9 => h9) rfl dX3_waysStillWarm_33 ?_
  refine lv_iload_n hx hb dX3_waysStillWarm_36 rfl (lv_at hl 3 rfl) ?_
  obtain ⟨i3, h⟩ := inb_some h
  refine g_iald (f := (A 7)) (j := p1.toNatClampNeg) hx hb hK hP 12 (eC_12 a cy I A T) i3 rfl dX3_waysStillWarm_37 ?_
  refine lv_iload_n hx hb dX3_waysStillWarm_38 rfl (lv_at hl 5 rfl) ?_
  refine lv_iload_n hx hb dX3_waysStillWarm_39 rfl (lv_at hl 4 rfl) ?_
  refine lv_iload hx hb dX3_waysStillWarm_40 (lv_at hl 1 rfl) ?_
  refine lv_iload hx hb dX3_waysStillWarm_42 (lv_at hl 0 rfl) ?_
  obtain ⟨r4, hr4, h⟩ := bnd_some h
  refine g_callSi (As := [.int ((A 7) p1.toNatClampNeg), .int p3, .int p2, .int r1, .int r2]) (rest := []) hx hb hml hown hts (c_X3_waysFrom_C l dC dI a cy N 10 I A T ((A 7) p1.toNatClampNeg) p3 p2 r1 r2 r4 hr4) (va_cwS 5 hts gX3_waysStillWarm_X3_waysFrom rfl rfl rfl (by decide +kernel) ⟨Nat.le_of_ble_eq_true rfl, Nat.le_of_ble_eq_true rfl⟩) hK hP hD hS hA rfl hl.1 rfl (Nat.le_of_ble_eq_true rfl) dX3_waysStillWarm_44 (fun H locs hP hD hS => ?_)
  cases h
  exact g_iret hx hb hr hK hP hD hS hQ dX3_waysStillWarm_47
def rm_X7_commonDivisor_C : Room := { frames := 3, cells := 0, slots := 0, locals := 210 }
def f_X7_commonDivisor_C_L7 (N : Nat) (k_7 : Int32 → Int32 → Int32 → Option (Int32)) (I : (Nat → Int32)) (A : (Nat → Nat → Int32)) : Nat → Int32 → Int32 → Int32 → Option (Int32)
  | 0, _, _, _ => none
  | n_7 + 1, x2, x3, x4 => (if 64 ≤ x4 then (k_7 x2 x3 x4) else (if x3 = 0 then (k_7 x2 x3 x4) else (f_X7_commonDivisor_C_L7 N k_7 I A n_7 x3 (x2 - x2 / x3 * x3) (x4 + 1))))
def f_X7_commonDivisor_C (N : Nat) (I : Nat → Int32) (A : Nat → Nat → Int32) (p0 : Int32) (p1 : Int32) : Option (Int32) := (f_X7_commonDivisor_C_L7 N (fun (x2 : Int32) (x3 : Int32) (x4 : Int32) => some x2) I A N p0 p1 0)
set_option maxHeartbeats 4000000 in
set_option maxRecDepth 100000 in
theorem c_X7_commonDivisor_C (l : Launch) (dC : Nat → ClassId) (dI : Nat → Nat → Nat) (a : Nat → Nat) (cy : Nat → ClassId) (N : Nat) (I : Nat → Int32) (A : Nat → Nat → Int32) (T : Int64) (p0 : Int32) (p1 : Int32) (res : Int32) (h : f_X7_commonDivisor_C N I A p0 p1 = some res) (sz : Nat) : Met l yX7_commonDivisor wsX7_commonDivisor rm_X7_commonDivisor_C (g_Pre (dC, dI) cy [.int p0, .int p1] (wC a cy I A T) sz) (g_Qi (dC, dI) cy res (wC a cy I A T) (wC a cy I A T) sz) 0 0 (va_A (wC a cy I A T) sz) := by
  unfold f_X7_commonDivisor_C at h
  refine g_entry _ _ _ _ _ _ (cc := cX7_commonDivisor) (maxL := 6) (ret := (some .int)) (by decide) rfl (Nat.le_of_ble_eq_true rfl) ?_
  intro p e s m args below meth c ls hx hb hml hown hts hr hlocks hA hK hP hD hS hl Q hQ
  have hl : lv_has ls 6 [(0, .int p0), (1, .int p1)] := hl
  have hown : s.vm.findClass RX7 = some m.cls := hown
  refine lv_iload_n hx hb dX7_commonDivisor_0 rfl (lv_at hl 0 rfl) ?_
  refine lv_istore_n (lv' := [(2, .int p0), (0, .int p0), (1, .int p1)]) hx hb dX7_commonDivisor_1 rfl hl (by decide) rfl (fun ls hl => ?_)
  refine lv_iload_n hx hb dX7_commonDivisor_2 rfl (lv_at hl 2 rfl) ?_
  refine lv_istore_n (lv' := [(3, .int p1), (2, .int p0), (0, .int p0), (1, .int p1)]) hx hb dX7_commonDivisor_3 rfl hl (by decide) rfl (fun ls hl => ?_)
  refine lv_iconst (v := 0) hx hb dX7_commonDivisor_4 (by decide) ?_
  refine lv_istore (lv' := [(4, .int 0), (3, .int p1), (2, .int p0), (0, .int p0), (1, .int p1)]) hx hb dX7_commonDivisor_5 hl (by decide) rfl (fun ls hl => ?_)
  have lp7 : ∀  (k_7 : Int32 → Int32 → Int32 → Option (Int32)), (∀ (x2 : Int32) (x3 : Int32) (x4 : Int32), k_7 x2 x3 x4 = some res → g_At (dC, dI) p l e (headSpec wsX7_commonDivisor rm_X7_commonDivisor_C).room s m args below meth c Q (wC a cy I A T) sz 6 (wC a cy I A T) [(2, .int x2)] 34 []) → ∀ (n_7 : Nat) (x2 : Int32) (x3 : Int32) (x4 : Int32), f_X7_commonDivisor_C_L7 N k_7 I A n_7 x2 x3 x4 = some res → g_At (dC, dI) p l e (headSpec wsX7_commonDivisor rm_X7_commonDivisor_C).room s m args below meth c Q (wC a cy I A T) sz 6 (wC a cy I A T) [(2, .int x2), (3, .int x3), (4, .int x4)] 7 [] := by
    intro  k_7 hk_7 n_7
    induction n_7 with
    | zero =>
      intro x2 x3 x4 h
      exact absurd h (by rw [f_X7_commonDivisor_C_L7]; exact fun q => by cases q)
    | succ n_7 ih7 =>
      intro x2 x3 x4 h H locs hP hD hS ls hl
      rw [f_X7_commonDivisor_C_L7] at h
      refine lv_iload hx hb dX7_commonDivisor_7 (lv_at hl 2 rfl) ?_
      refine lv_bipush (v := 64) hx hb dX7_commonDivisor_9 (by decide) ?_
      refine lv_icmp_ge (tgt := 34) hx hb dX7_commonDivisor_11 (by decide) (fun c1 => ?_) (fun c1 => ?_)
      · replace h := ite_t h c1
        exact hk_7 _ _ _ h _ _ hP hD hS _ (lv_sub hl [0] rfl)
      · replace h := ite_f h c1
        refine lv_iload_n hx hb dX7_commonDivisor_14 rfl (lv_at hl 1 rfl) ?_
        refine lv_if_eq (tgt := 34) hx hb dX7_commonDivisor_15 (by decide) (fun c2 => ?_) (fun c2 => ?_)
        · replace h := ite_t h c2
          exact hk_7 _ _ _ h _ _ hP hD hS _ (lv_sub hl [0] rfl)
        · replace h := ite_f h c2
          refine lv_iload_n hx hb dX7_commonDivisor_18 rfl (lv_at hl 0 rfl) ?_
          refine lv_iload_n hx hb dX7_commonDivisor_19 rfl (lv_at hl 1 rfl) ?_
          refine lv_irem hx hb dX7_commonDivisor_20 c2 ?_
          refine lv_istore (lv' := [(5, .int (x2 - x2 / x3 * x3)), (2, .int x2), (3, .int x3), (4, .int x4)]) hx hb dX7_commonDivisor_21 hl (by decide) rfl (fun ls hl => ?_)
          refine lv_iload_n hx hb dX7_commonDivisor_23 rfl (lv_at hl 2 rfl) ?_
          refine lv_istore_n (lv' := [(2, .int x3), (5, .int (x2 - x2 / x3 * x3)), (3, .int x3), (4, .int x4)]) hx hb dX7_commonDivisor_24 rfl hl (by decide) rfl (fun ls hl => ?_)
          refine lv_iload hx hb dX7_commonDivisor_25 (lv_at hl 1 rfl) ?_
          refine lv_istore_n (lv' := [(3, .int (x2 - x2 / x3 * x3)), (2, .int x3), (5, .int (x2 - x2 / x3 * x3)), (4, .int x4)]) hx hb dX7_commonDivisor_27 rfl hl (by decide) rfl (fun ls hl => ?_)
          refine lv_iinc (v := (x4 + 1)) (lv' := [(4, .int (x4 + 1)), (3, .int (x2 - x2 / x3 * x3)), (2, .int x3), (5, .int (x2 - x2 / x3 * x3))]) hx hb dX7_commonDivisor_28 hl (k := 3) rfl rfl (by decide) rfl (fun ls hl => ?_)
          refine lv_goto (tgt := 7) hx hb dX7_commonDivisor_31 (by decide) ?_
          exact ih7 _ _ _ h _ _ hP hD hS _ (lv_sub hl [2, 1, 0] rfl)
  refine lp7  _ ?_ N _ _ _ h _ _ hP hD hS _ (lv_sub hl [2, 1, 0] rfl)
  intro x2 x3 x4 h H locs hP hD hS ls hl
  refine lv_iload_n hx hb dX7_commonDivisor_34 rfl (lv_at hl 0 rfl) ?_
  cases h
  exact g_iret hx hb hr hK hP hD hS hQ dX7_commonDivisor_35
theorem inX7_odds_X7 : ∀ w ∈ u_ws RX7 TX7 9, w ∈ wsX7_odds := by decide +kernel
theorem mX7_odds_0 : Cond.fieldLink RX7 26 "WarmBottles" "night" "LWarmBottles$Night;" ∈ wsX7_odds := List.mem_of_getElem? (i := 1) rfl
def rm_X7_odds_C : Room := { frames := 26, cells := 0, slots := 0, locals := 824 }
def f_X7_odds_C_L64 (N : Nat) (k_64 : Int32 → Int32 → Option (Int32)) (x3 : Int32) (x4 : Int32) (x5 : Int32) (I : (Nat → Int32)) (A : (Nat → Nat → Int32)) : Nat → Int32 → Int32 → Option (Int32)
  | 0, _, _ => none
  | n_64 + 1, x6, x7 => (if x3 ≤ x7 then (k_64 x6 x7) else (f_X7_odds_C_L64 N k_64 x3 x4 x5 I A n_64 (x6 * 10) (x7 + 1)))
def f_X7_odds_C (N : Nat) (I : Nat → Int32) (A : Nat → Nat → Int32) (p1 : Int32) (p2 : Int32) (p3 : Int32) (p4 : Int32) : Option (Int32) := (Option.bind (f_X3_has_C N I A p1) (fun r1 => (if r1 = 0 then some (-1) else (if p2 < 0 then some (-1) else (if 10 < p2 then some (-1) else (if p3 < 0 then some (-1) else (if p3 ≤ 8 then (if p4 = 0 then (Option.bind (f_X3_waysStillWarm_C N I A p1 p2 p3) (fun r8 => (f_X7_odds_C_L64 N (fun (x6 : Int32) (x7 : Int32) => (if p4 = 0 then (Option.bind (f_X7_commonDivisor_C N I A r8 x6) (fun r13 => (if r13 ≤ 0 then some r8 else (if r13 = 0 then none else some (r8 / r13))))) else (Option.bind (f_X7_commonDivisor_C N I A r8 x6) (fun r10 => (if r10 ≤ 0 then some x6 else (if r10 = 0 then none else some (x6 / r10))))))) p3 p4 r8 I A N 1 0))) else (if p4 = 1 then (Option.bind (f_X3_waysStillWarm_C N I A p1 p2 p3) (fun r18 => (f_X7_odds_C_L64 N (fun (x6 : Int32) (x7 : Int32) => (if p4 = 0 then (Option.bind (f_X7_commonDivisor_C N I A r18 x6) (fun r23 => (if r23 ≤ 0 then some r18 else (if r23 = 0 then none else some (r18 / r23))))) else (Option.bind (f_X7_commonDivisor_C N I A r18 x6) (fun r20 => (if r20 ≤ 0 then some x6 else (if r20 = 0 then none else some (x6 / r20))))))) p3 p4 r18 I A N 1 0))) else some (-1))) else some (-1))))))))
set_option maxHeartbeats 4000000 in
set_option maxRecDepth 100000 in
theorem c_X7_odds_C (l : Launch) (dC : Nat → ClassId) (dI : Nat → Nat → Nat) (a : Nat → Nat) (cy : Nat → ClassId) (N : Nat) (I : Nat → Int32) (A : Nat → Nat → Int32) (T : Int64) (p1 : Int32) (p2 : Int32) (p3 : Int32) (p4 : Int32) (res : Int32) (h : f_X7_odds_C N I A p1 p2 p3 p4 = some res) (sz : Nat) : Met l yX7_odds wsX7_odds rm_X7_odds_C (g_Pre (dC, dI) cy [.ref (a 0), .int p1, .int p2, .int p3, .int p4] (wC a cy I A T) sz) (g_Qi (dC, dI) cy res (wC a cy I A T) (wC a cy I A T) sz) 0 0 (va_A (wC a cy I A T) sz) := by
  unfold f_X7_odds_C at h
  refine g_entry _ _ _ _ _ _ (cc := cX7_odds) (maxL := 9) (ret := (some .int)) (by decide) rfl (Nat.le_of_ble_eq_true rfl) ?_
  intro p e s m args below meth c ls hx hb hml hown hts hr hlocks hA hK hP hD hS hl Q hQ
  have hl : lv_has ls 9 [(0, .ref (a 0)), (1, .int p1), (2, .int p2), (3, .int p3), (4, .int p4)] := hl
  have hown : s.vm.findClass RX7 = some m.cls := hown
  refine lv_aload_n hx hb dX7_odds_0 rfl (lv_at hl 0 rfl) ?_
  refine va_get (D := (dC, dI)) (ci := 7) (v := .ref (a 7)) (C := RX7) (T := TX7) (N := 9) hx hb hts inX7_odds_X7 hown hK hP 0 (eC_0 a cy I A T) rfl 2 (by decide) (hts _ mX7_odds_0) (fun _ h9 => h9) rfl dX7_odds_1 ?_
  refine lv_iload_n hx hb dX7_odds_4 rfl (lv_at hl 1 rfl) ?_
  obtain ⟨r1, hr1, h⟩ := bnd_some h
  refine g_callVi (As := [.int p1]) (rest := []) (ci := 3) (q0 := 7) hx hb hml hown hts (c_X3_has_C l dC dI a cy N I A T p1 r1 hr1) (cwV 1 hts gX7_odds_X3_has rfl rfl rfl (by decide +kernel) ⟨Nat.le_of_ble_eq_true rfl, Nat.le_of_ble_eq_true rfl⟩) hK hP hD hS hA rfl (eC_7 a cy I A T) rfl rfl hl.1 rfl (Nat.le_of_ble_eq_true rfl) dX7_odds_5 (fun H locs hP hD hS => ?_)
  refine lv_if_eq (tgt := 31) hx hb dX7_odds_8 (by decide) (fun c2 => ?_) (fun c2 => ?_)
  · replace h := ite_t h c2
    refine lv_iconst (v := (-1)) hx hb dX7_odds_31 (by decide) ?_
    cases h
    exact g_iret hx hb hr hK hP hD hS hQ dX7_odds_32
  · replace h := ite_f h c2
    refine lv_iload_n hx hb dX7_odds_11 rfl (lv_at hl 2 rfl) ?_
    refine lv_if_lt (tgt := 31) hx hb dX7_odds_12 (by decide) (fun c3 => ?_) (fun c3 => ?_)
    · replace h := ite_t h c3
      refine lv_iconst (v := (-1)) hx hb dX7_odds_31 (by decide) ?_
      cases h
      exact g_iret hx hb hr hK hP hD hS hQ dX7_odds_32
    · replace h := ite_f h c3
      refine lv_iload_n hx hb dX7_odds_15 rfl (lv_at hl 2 rfl) ?_
      refine lv_bipush (v := 10) hx hb dX7_odds_16 (by decide) ?_
      refine lv_icmp_gt (tgt := 31) hx hb dX7_odds_18 (by decide) (fun c4 => ?_) (fun c4 => ?_)
      · replace h := ite_t h c4
        refine lv_iconst (v := (-1)) hx hb dX7_odds_31 (by decide) ?_
        cases h
        exact g_iret hx hb hr hK hP hD hS hQ dX7_odds_32
      · replace h := ite_f h c4
        refine lv_iload_n hx hb dX7_odds_21 rfl (lv_at hl 3 rfl) ?_
        refine lv_if_lt (tgt := 31) hx hb dX7_odds_22 (by decide) (fun c5 => ?_) (fun c5 => ?_)
        · replace h := ite_t h c5
          refine lv_iconst (v := (-1)) hx hb dX7_odds_31 (by decide) ?_
          cases h
          exact g_iret hx hb hr hK hP hD hS hQ dX7_odds_32
        · replace h := ite_f h c5
          refine lv_iload_n hx hb dX7_odds_25 rfl (lv_at hl 3 rfl) ?_
          refine lv_bipush (v := 8) hx hb dX7_odds_26 (by decide) ?_
          refine lv_icmp_le (tgt := 33) hx hb dX7_odds_28 (by decide) (fun c6 => ?_) (fun c6 => ?_)
          · replace h := ite_t h c6
            refine lv_iload hx hb dX7_odds_33 (lv_at hl 4 rfl) ?_
            refine lv_if_eq (tgt := 46) hx hb dX7_odds_35 (by decide) (fun c7 => ?_) (fun c7 => ?_)
            · replace h := ite_t h c7
              refine lv_aload_n hx hb dX7_odds_46 rfl (lv_at hl 0 rfl) ?_
              refine va_get (D := (dC, dI)) (ci := 7) (v := .ref (a 7)) (C := RX7) (T := TX7) (N := 9) hx hb hts inX7_odds_X7 hown hK hP 0 (eC_0 a cy I A T) rfl 2 (by decide) (hts _ mX7_odds_0) (fun _ h9 => h9) rfl dX7_odds_47 ?_
              refine lv_iload_n hx hb dX7_odds_50 rfl (lv_at hl 1 rfl) ?_
              refine lv_iload_n hx hb dX7_odds_51 rfl (lv_at hl 2 rfl) ?_
              refine lv_iload_n hx hb dX7_odds_52 rfl (lv_at hl 3 rfl) ?_
              obtain ⟨r8, hr8, h⟩ := bnd_some h
              refine g_callVi (As := [.int p1, .int p2, .int p3]) (rest := []) (ci := 3) (q0 := 7) hx hb hml hown hts (c_X3_waysStillWarm_C l dC dI a cy N I A T p1 p2 p3 r8 hr8) (cwV 3 hts gX7_odds_X3_waysStillWarm rfl rfl rfl (by decide +kernel) ⟨Nat.le_of_ble_eq_true rfl, Nat.le_of_ble_eq_true rfl⟩) hK hP hD hS hA rfl (eC_7 a cy I A T) rfl rfl hl.1 rfl (Nat.le_of_ble_eq_true rfl) dX7_odds_53 (fun H locs hP hD hS => ?_)
              refine lv_istore (lv' := [(5, .int r8), (0, .ref (a 0)), (1, .int p1), (2, .int p2), (3, .int p3), (4, .int p4)]) hx hb dX7_odds_56 hl (by decide) rfl (fun ls hl => ?_)
              refine lv_iconst (v := 1) hx hb dX7_odds_58 (by decide) ?_
              refine lv_istore (lv' := [(6, .int 1), (5, .int r8), (0, .ref (a 0)), (1, .int p1), (2, .int p2), (3, .int p3), (4, .int p4)]) hx hb dX7_odds_59 hl (by decide) rfl (fun ls hl => ?_)
              refine lv_iconst (v := 0) hx hb dX7_odds_61 (by decide) ?_
              refine lv_istore (lv' := [(7, .int 0), (6, .int 1), (5, .int r8), (0, .ref (a 0)), (1, .int p1), (2, .int p2), (3, .int p3), (4, .int p4)]) hx hb dX7_odds_62 hl (by decide) rfl (fun ls hl => ?_)
              have lp64 : ∀ (x3 : Int32) (x4 : Int32) (x5 : Int32) (k_64 : Int32 → Int32 → Option (Int32)), (∀ (x6 : Int32) (x7 : Int32), k_64 x6 x7 = some res → g_At (dC, dI) p l e (headSpec wsX7_odds rm_X7_odds_C).room s m args below meth c Q (wC a cy I A T) sz 9 (wC a cy I A T) [(4, .int x4), (5, .int x5), (6, .int x6)] 83 []) → ∀ (n_64 : Nat) (x6 : Int32) (x7 : Int32), f_X7_odds_C_L64 N k_64 x3 x4 x5 I A n_64 x6 x7 = some res → g_At (dC, dI) p l e (headSpec wsX7_odds rm_X7_odds_C).room s m args below meth c Q (wC a cy I A T) sz 9 (wC a cy I A T) [(3, .int x3), (4, .int x4), (5, .int x5), (6, .int x6), (7, .int x7)] 64 [] := by
                intro x3 x4 x5 k_64 hk_64 n_64
                induction n_64 with
                | zero =>
                  intro x6 x7 h
                  exact absurd h (by rw [f_X7_odds_C_L64]; exact fun q => by cases q)
                | succ n_64 ih64 =>
                  intro x6 x7 h H locs hP hD hS ls hl
                  rw [f_X7_odds_C_L64] at h
                  refine lv_iload hx hb dX7_odds_64 (lv_at hl 4 rfl) ?_
                  refine lv_iload_n hx hb dX7_odds_66 rfl (lv_at hl 0 rfl) ?_
                  refine lv_icmp_ge (tgt := 83) hx hb dX7_odds_67 (by decide) (fun c16 => ?_) (fun c16 => ?_)
                  · replace h := ite_t h c16
                    exact hk_64 _ _ h _ _ hP hD hS _ (lv_sub hl [1, 2, 3] rfl)
                  · replace h := ite_f h c16
                    refine lv_iload hx hb dX7_odds_70 (lv_at hl 3 rfl) ?_
                    refine lv_bipush (v := 10) hx hb dX7_odds_72 (by decide) ?_
                    refine lv_imul hx hb dX7_odds_74 ?_
                    refine lv_istore (lv' := [(6, .int (x6 * 10)), (3, .int x3), (4, .int x4), (5, .int x5), (7, .int x7)]) hx hb dX7_odds_75 hl (by decide) rfl (fun ls hl => ?_)
                    refine lv_iinc (v := (x7 + 1)) (lv' := [(7, .int (x7 + 1)), (6, .int (x6 * 10)), (3, .int x3), (4, .int x4), (5, .int x5)]) hx hb dX7_odds_77 hl (k := 4) rfl rfl (by decide) rfl (fun ls hl => ?_)
                    refine lv_goto (tgt := 64) hx hb dX7_odds_80 (by decide) ?_
                    exact ih64 _ _ h _ _ hP hD hS _ (lv_sub hl [2, 3, 4, 1, 0] rfl)
              refine lp64 _ _ _ _ ?_ N _ _ h _ _ hP hD hS _ (lv_sub hl [6, 7, 2, 1, 0] rfl)
              intro x6 x7 h H locs hP hD hS ls hl
              refine lv_iload hx hb dX7_odds_83 (lv_at hl 0 rfl) ?_
              refine lv_if_ne (tgt := 93) hx hb dX7_odds_85 (by decide) (fun c9 => ?_) (fun c9 => ?_)
              · replace h := ite_f h c9
                refine lv_iload hx hb dX7_odds_93 (lv_at hl 2 rfl) ?_
                refine lv_istore (lv' := [(7, .int x6), (4, .int p4), (5, .int r8), (6, .int x6)]) hx hb dX7_odds_95 hl (by decide) rfl (fun ls hl => ?_)
                refine lv_iload hx hb dX7_odds_97 (lv_at hl 2 rfl) ?_
                refine lv_iload hx hb dX7_odds_99 (lv_at hl 3 rfl) ?_
                obtain ⟨r10, hr10, h⟩ := bnd_some h
                refine g_callSi (As := [.int r8, .int x6]) (rest := []) hx hb hml hown hts (c_X7_commonDivisor_C l dC dI a cy N I A T r8 x6 r10 hr10) (va_cwS 2 hts gX7_odds_X7_commonDivisor rfl rfl rfl (by decide +kernel) ⟨Nat.le_of_ble_eq_true rfl, Nat.le_of_ble_eq_true rfl⟩) hK hP hD hS hA rfl hl.1 rfl (Nat.le_of_ble_eq_true rfl) dX7_odds_101 (fun H locs hP hD hS => ?_)
                refine lv_istore (lv' := [(8, .int r10), (7, .int x6), (4, .int p4), (5, .int r8), (6, .int x6)]) hx hb dX7_odds_104 hl (by decide) rfl (fun ls hl => ?_)
                refine lv_iload hx hb dX7_odds_106 (lv_at hl 0 rfl) ?_
                refine lv_if_le (tgt := 119) hx hb dX7_odds_108 (by decide) (fun c11 => ?_) (fun c11 => ?_)
                · replace h := ite_t h c11
                  refine lv_iload hx hb dX7_odds_119 (lv_at hl 1 rfl) ?_
                  cases h
                  exact g_iret hx hb hr hK hP hD hS hQ dX7_odds_121
                · replace h := ite_f h c11
                  refine lv_iload hx hb dX7_odds_111 (lv_at hl 1 rfl) ?_
                  refine lv_iload hx hb dX7_odds_113 (lv_at hl 0 rfl) ?_
                  obtain ⟨z12, h⟩ := nz_some h
                  refine lv_idiv hx hb dX7_odds_115 z12 ?_
                  refine lv_goto (tgt := 121) hx hb dX7_odds_116 (by decide) ?_
                  cases h
                  exact g_iret hx hb hr hK hP hD hS hQ dX7_odds_121
              · replace h := ite_t h c9
                refine lv_iload hx hb dX7_odds_88 (lv_at hl 1 rfl) ?_
                refine lv_goto (tgt := 95) hx hb dX7_odds_90 (by decide) ?_
                refine lv_istore (lv' := [(7, .int r8), (4, .int p4), (5, .int r8), (6, .int x6)]) hx hb dX7_odds_95 hl (by decide) rfl (fun ls hl => ?_)
                refine lv_iload hx hb dX7_odds_97 (lv_at hl 2 rfl) ?_
                refine lv_iload hx hb dX7_odds_99 (lv_at hl 3 rfl) ?_
                obtain ⟨r13, hr13, h⟩ := bnd_some h
                refine g_callSi (As := [.int r8, .int x6]) (rest := []) hx hb hml hown hts (c_X7_commonDivisor_C l dC dI a cy N I A T r8 x6 r13 hr13) (va_cwS 2 hts gX7_odds_X7_commonDivisor rfl rfl rfl (by decide +kernel) ⟨Nat.le_of_ble_eq_true rfl, Nat.le_of_ble_eq_true rfl⟩) hK hP hD hS hA rfl hl.1 rfl (Nat.le_of_ble_eq_true rfl) dX7_odds_101 (fun H locs hP hD hS => ?_)
                refine lv_istore (lv' := [(8, .int r13), (7, .int r8), (4, .int p4), (5, .int r8), (6, .int x6)]) hx hb dX7_odds_104 hl (by decide) rfl (fun ls hl => ?_)
                refine lv_iload hx hb dX7_odds_106 (lv_at hl 0 rfl) ?_
                refine lv_if_le (tgt := 119) hx hb dX7_odds_108 (by decide) (fun c14 => ?_) (fun c14 => ?_)
                · replace h := ite_t h c14
                  refine lv_iload hx hb dX7_odds_119 (lv_at hl 1 rfl) ?_
                  cases h
                  exact g_iret hx hb hr hK hP hD hS hQ dX7_odds_121
                · replace h := ite_f h c14
                  refine lv_iload hx hb dX7_odds_111 (lv_at hl 1 rfl) ?_
                  refine lv_iload hx hb dX7_odds_113 (lv_at hl 0 rfl) ?_
                  obtain ⟨z15, h⟩ := nz_some h
                  refine lv_idiv hx hb dX7_odds_115 z15 ?_
                  refine lv_goto (tgt := 121) hx hb dX7_odds_116 (by decide) ?_
                  cases h
                  exact g_iret hx hb hr hK hP hD hS hQ dX7_odds_121
            · replace h := ite_f h c7
              refine lv_iload hx hb dX7_odds_38 (lv_at hl 4 rfl) ?_
              refine lv_iconst (v := 1) hx hb dX7_odds_40 (by decide) ?_
              refine lv_icmp_eq (tgt := 46) hx hb dX7_odds_41 (by decide) (fun c17 => ?_) (fun c17 => ?_)
              · replace h := ite_t h c17
                refine lv_aload_n hx hb dX7_odds_46 rfl (lv_at hl 0 rfl) ?_
                refine va_get (D := (dC, dI)) (ci := 7) (v := .ref (a 7)) (C := RX7) (T := TX7) (N := 9) hx hb hts inX7_odds_X7 hown hK hP 0 (eC_0 a cy I A T) rfl 2 (by decide) (hts _ mX7_odds_0) (fun _ h9 => h9) rfl dX7_odds_47 ?_
                refine lv_iload_n hx hb dX7_odds_50 rfl (lv_at hl 1 rfl) ?_
                refine lv_iload_n hx hb dX7_odds_51 rfl (lv_at hl 2 rfl) ?_
                refine lv_iload_n hx hb dX7_odds_52 rfl (lv_at hl 3 rfl) ?_
                obtain ⟨r18, hr18, h⟩ := bnd_some h
                refine g_callVi (As := [.int p1, .int p2, .int p3]) (rest := []) (ci := 3) (q0 := 7) hx hb hml hown hts (c_X3_waysStillWarm_C l dC dI a cy N I A T p1 p2 p3 r18 hr18) (cwV 3 hts gX7_odds_X3_waysStillWarm rfl rfl rfl (by decide +kernel) ⟨Nat.le_of_ble_eq_true rfl, Nat.le_of_ble_eq_true rfl⟩) hK hP hD hS hA rfl (eC_7 a cy I A T) rfl rfl hl.1 rfl (Nat.le_of_ble_eq_true rfl) dX7_odds_53 (fun H locs hP hD hS => ?_)
                refine lv_istore (lv' := [(5, .int r18), (0, .ref (a 0)), (1, .int p1), (2, .int p2), (3, .int p3), (4, .int p4)]) hx hb dX7_odds_56 hl (by decide) rfl (fun ls hl => ?_)
                refine lv_iconst (v := 1) hx hb dX7_odds_58 (by decide) ?_
                refine lv_istore (lv' := [(6, .int 1), (5, .int r18), (0, .ref (a 0)), (1, .int p1), (2, .int p2), (3, .int p3), (4, .int p4)]) hx hb dX7_odds_59 hl (by decide) rfl (fun ls hl => ?_)
                refine lv_iconst (v := 0) hx hb dX7_odds_61 (by decide) ?_
                refine lv_istore (lv' := [(7, .int 0), (6, .int 1), (5, .int r18), (0, .ref (a 0)), (1, .int p1), (2, .int p2), (3, .int p3), (4, .int p4)]) hx hb dX7_odds_62 hl (by decide) rfl (fun ls hl => ?_)
                have lp64 : ∀ (x3 : Int32) (x4 : Int32) (x5 : Int32) (k_64 : Int32 → Int32 → Option (Int32)), (∀ (x6 : Int32) (x7 : Int32), k_64 x6 x7 = some res → g_At (dC, dI) p l e (headSpec wsX7_odds rm_X7_odds_C).room s m args below meth c Q (wC a cy I A T) sz 9 (wC a cy I A T) [(4, .int x4), (5, .int x5), (6, .int x6)] 83 []) → ∀ (n_64 : Nat) (x6 : Int32) (x7 : Int32), f_X7_odds_C_L64 N k_64 x3 x4 x5 I A n_64 x6 x7 = some res → g_At (dC, dI) p l e (headSpec wsX7_odds rm_X7_odds_C).room s m args below meth c Q (wC a cy I A T) sz 9 (wC a cy I A T) [(3, .int x3), (4, .int x4), (5, .int x5), (6, .int x6), (7, .int x7)] 64 [] := by
                  intro x3 x4 x5 k_64 hk_64 n_64
                  induction n_64 with
                  | zero =>
                    intro x6 x7 h
                    exact absurd h (by rw [f_X7_odds_C_L64]; exact fun q => by cases q)
                  | succ n_64 ih64 =>
                    intro x6 x7 h H locs hP hD hS ls hl
                    rw [f_X7_odds_C_L64] at h
                    refine lv_iload hx hb dX7_odds_64 (lv_at hl 4 rfl) ?_
                    refine lv_iload_n hx hb dX7_odds_66 rfl (lv_at hl 0 rfl) ?_
                    refine lv_icmp_ge (tgt := 83) hx hb dX7_odds_67 (by decide) (fun c26 => ?_) (fun c26 => ?_)
                    · replace h := ite_t h c26
                      exact hk_64 _ _ h _ _ hP hD hS _ (lv_sub hl [1, 2, 3] rfl)
                    · replace h := ite_f h c26
                      refine lv_iload hx hb dX7_odds_70 (lv_at hl 3 rfl) ?_
                      refine lv_bipush (v := 10) hx hb dX7_odds_72 (by decide) ?_
                      refine lv_imul hx hb dX7_odds_74 ?_
                      refine lv_istore (lv' := [(6, .int (x6 * 10)), (3, .int x3), (4, .int x4), (5, .int x5), (7, .int x7)]) hx hb dX7_odds_75 hl (by decide) rfl (fun ls hl => ?_)
                      refine lv_iinc (v := (x7 + 1)) (lv' := [(7, .int (x7 + 1)), (6, .int (x6 * 10)), (3, .int x3), (4, .int x4), (5, .int x5)]) hx hb dX7_odds_77 hl (k := 4) rfl rfl (by decide) rfl (fun ls hl => ?_)
                      refine lv_goto (tgt := 64) hx hb dX7_odds_80 (by decide) ?_
                      exact ih64 _ _ h _ _ hP hD hS _ (lv_sub hl [2, 3, 4, 1, 0] rfl)
                refine lp64 _ _ _ _ ?_ N _ _ h _ _ hP hD hS _ (lv_sub hl [6, 7, 2, 1, 0] rfl)
                intro x6 x7 h H locs hP hD hS ls hl
                refine lv_iload hx hb dX7_odds_83 (lv_at hl 0 rfl) ?_
                refine lv_if_ne (tgt := 93) hx hb dX7_odds_85 (by decide) (fun c19 => ?_) (fun c19 => ?_)
                · replace h := ite_f h c19
                  refine lv_iload hx hb dX7_odds_93 (lv_at hl 2 rfl) ?_
                  refine lv_istore (lv' := [(7, .int x6), (4, .int p4), (5, .int r18), (6, .int x6)]) hx hb dX7_odds_95 hl (by decide) rfl (fun ls hl => ?_)
                  refine lv_iload hx hb dX7_odds_97 (lv_at hl 2 rfl) ?_
                  refine lv_iload hx hb dX7_odds_99 (lv_at hl 3 rfl) ?_
                  obtain ⟨r20, hr20, h⟩ := bnd_some h
                  refine g_callSi (As := [.int r18, .int x6]) (rest := []) hx hb hml hown hts (c_X7_commonDivisor_C l dC dI a cy N I A T r18 x6 r20 hr20) (va_cwS 2 hts gX7_odds_X7_commonDivisor rfl rfl rfl (by decide +kernel) ⟨Nat.le_of_ble_eq_true rfl, Nat.le_of_ble_eq_true rfl⟩) hK hP hD hS hA rfl hl.1 rfl (Nat.le_of_ble_eq_true rfl) dX7_odds_101 (fun H locs hP hD hS => ?_)
                  refine lv_istore (lv' := [(8, .int r20), (7, .int x6), (4, .int p4), (5, .int r18), (6, .int x6)]) hx hb dX7_odds_104 hl (by decide) rfl (fun ls hl => ?_)
                  refine lv_iload hx hb dX7_odds_106 (lv_at hl 0 rfl) ?_
                  refine lv_if_le (tgt := 119) hx hb dX7_odds_108 (by decide) (fun c21 => ?_) (fun c21 => ?_)
                  · replace h := ite_t h c21
                    refine lv_iload hx hb dX7_odds_119 (lv_at hl 1 rfl) ?_
                    cases h
                    exact g_iret hx hb hr hK hP hD hS hQ dX7_odds_121
                  · replace h := ite_f h c21
                    refine lv_iload hx hb dX7_odds_111 (lv_at hl 1 rfl) ?_
                    refine lv_iload hx hb dX7_odds_113 (lv_at hl 0 rfl) ?_
                    obtain ⟨z22, h⟩ := nz_some h
                    refine lv_idiv hx hb dX7_odds_115 z22 ?_
                    refine lv_goto (tgt := 121) hx hb dX7_odds_116 (by decide) ?_
                    cases h
                    exact g_iret hx hb hr hK hP hD hS hQ dX7_odds_121
                · replace h := ite_t h c19
                  refine lv_iload hx hb dX7_odds_88 (lv_at hl 1 rfl) ?_
                  refine lv_goto (tgt := 95) hx hb dX7_odds_90 (by decide) ?_
                  refine lv_istore (lv' := [(7, .int r18), (4, .int p4), (5, .int r18), (6, .int x6)]) hx hb dX7_odds_95 hl (by decide) rfl (fun ls hl => ?_)
                  refine lv_iload hx hb dX7_odds_97 (lv_at hl 2 rfl) ?_
                  refine lv_iload hx hb dX7_odds_99 (lv_at hl 3 rfl) ?_
                  obtain ⟨r23, hr23, h⟩ := bnd_some h
                  refine g_callSi (As := [.int r18, .int x6]) (rest := []) hx hb hml hown hts (c_X7_commonDivisor_C l dC dI a cy N I A T r18 x6 r23 hr23) (va_cwS 2 hts gX7_odds_X7_commonDivisor rfl rfl rfl (by decide +kernel) ⟨Nat.le_of_ble_eq_true rfl, Nat.le_of_ble_eq_true rfl⟩) hK hP hD hS hA rfl hl.1 rfl (Nat.le_of_ble_eq_true rfl) dX7_odds_101 (fun H locs hP hD hS => ?_)
                  refine lv_istore (lv' := [(8, .int r23), (7, .int r18), (4, .int p4), (5, .int r18), (6, .int x6)]) hx hb dX7_odds_104 hl (by decide) rfl (fun ls hl => ?_)
                  refine lv_iload hx hb dX7_odds_106 (lv_at hl 0 rfl) ?_
                  refine lv_if_le (tgt := 119) hx hb dX7_odds_108 (by decide) (fun c24 => ?_) (fun c24 => ?_)
                  · replace h := ite_t h c24
                    refine lv_iload hx hb dX7_odds_119 (lv_at hl 1 rfl) ?_
                    cases h
                    exact g_iret hx hb hr hK hP hD hS hQ dX7_odds_121
                  · replace h := ite_f h c24
                    refine lv_iload hx hb dX7_odds_111 (lv_at hl 1 rfl) ?_
                    refine lv_iload hx hb dX7_odds_113 (lv_at hl 0 rfl) ?_
                    obtain ⟨z25, h⟩ := nz_some h
                    refine lv_idiv hx hb dX7_odds_115 z25 ?_
                    refine lv_goto (tgt := 121) hx hb dX7_odds_116 (by decide) ?_
                    cases h
                    exact g_iret hx hb hr hK hP hD hS hQ dX7_odds_121
              · replace h := ite_f h c17
                refine lv_iconst (v := (-1)) hx hb dX7_odds_44 (by decide) ?_
                cases h
                exact g_iret hx hb hr hK hP hD hS hQ dX7_odds_45
          · replace h := ite_f h c6
            refine lv_iconst (v := (-1)) hx hb dX7_odds_31 (by decide) ?_
            cases h
            exact g_iret hx hb hr hK hP hD hS hQ dX7_odds_32
theorem inX1_add_X1 : ∀ w ∈ u_ws RX1 TX1 3, w ∈ wsX1_add := by decide +kernel
theorem mX1_add_0 : Cond.fieldLink RX1 18 "WarmBottles$Heard" "number" "I" ∈ wsX1_add := List.mem_of_getElem? (i := 1) rfl
theorem mX1_add_1 : Cond.fieldLink RX1 9 "WarmBottles$Heard" "hours" "[I" ∈ wsX1_add := List.mem_of_getElem? (i := 2) rfl
theorem mX1_add_2 : Cond.fieldLink RX1 15 "WarmBottles$Heard" "sounds" "[I" ∈ wsX1_add := List.mem_of_getElem? (i := 3) rfl
def rm_X1_add_C : Room := { frames := 3, cells := 0, slots := 0, locals := 210 }
def f_X1_add_C (N : Nat) (I : Nat → Int32) (A : Nat → Nat → Int32) (p1 : Int32) (p2 : Int32) : Option ((Nat → Int32) × (Nat → Nat → Int32)) := (if 6 ≤ (I 18) then some (I, A) else (if (I 18) < 0 ∨ 6 ≤ ((I 18)).toNatClampNeg then none else some ((upd I 18 ((I 18) + 1)), (va_up (va_up A 12 (upd (A 12) ((I 18)).toNatClampNeg p1)) 13 (upd (A 13) ((I 18)).toNatClampNeg p2)))))
set_option maxHeartbeats 4000000 in
set_option maxRecDepth 100000 in
theorem c_X1_add_C (l : Launch) (dC : Nat → ClassId) (dI : Nat → Nat → Nat) (a : Nat → Nat) (cy : Nat → ClassId) (N : Nat) (I : Nat → Int32) (A : Nat → Nat → Int32) (T : Int64) (p1 : Int32) (p2 : Int32) (res : (Nat → Int32) × (Nat → Nat → Int32)) (h : f_X1_add_C N I A p1 p2 = some res) (sz : Nat) : Met l yX1_add wsX1_add rm_X1_add_C (g_Pre (dC, dI) cy [.ref (a 20), .int p1, .int p2] (wC a cy I A T) sz) (g_Qv (dC, dI) cy (wC a cy I A T) (wC a cy res.1 res.2 T) sz) 0 0 (va_A (wC a cy I A T) sz) := by
  unfold f_X1_add_C at h
  refine g_entry _ _ _ _ _ _ (cc := cX1_add) (maxL := 3) (ret := none) (by decide) rfl (Nat.le_of_ble_eq_true rfl) ?_
  intro p e s m args below meth c ls hx hb hml hown hts hr hlocks hA hK hP hD hS hl Q hQ
  have hl : lv_has ls 3 [(0, .ref (a 20)), (1, .int p1), (2, .int p2)] := hl
  have hown : s.vm.findClass RX1 = some m.cls := hown
  refine lv_aload_n hx hb dX1_add_0 rfl (lv_at hl 0 rfl) ?_
  refine va_get (D := (dC, dI)) (ci := 1) (v := .int (I 18)) (C := RX1) (T := TX1) (N := 3) hx hb hts inX1_add_X1 hown hK hP 20 (eC_20 a cy I A T) rfl 2 (by decide) (hts _ mX1_add_0) (fun _ h9 => h9) rfl dX1_add_1 ?_
  refine lv_bipush (v := 6) hx hb dX1_add_4 (by decide) ?_
  refine lv_icmp_ge (tgt := 39) hx hb dX1_add_6 (by decide) (fun c1 => ?_) (fun c1 => ?_)
  · replace h := ite_t h c1
    cases h
    exact g_vret hx hb hr hK hP hD hS hQ dX1_add_39
  · replace h := ite_f h c1
    refine lv_aload_n hx hb dX1_add_9 rfl (lv_at hl 0 rfl) ?_
    refine va_get (D := (dC, dI)) (ci := 1) (v := .ref (a 21)) (C := RX1) (T := TX1) (N := 3) hx hb hts inX1_add_X1 hown hK hP 20 (eC_20 a cy I A T) rfl 0 (by decide) (hts _ mX1_add_1) (fun _ h9 => h9) rfl dX1_add_10 ?_
    refine lv_aload_n hx hb dX1_add_13 rfl (lv_at hl 0 rfl) ?_
    refine va_get (D := (dC, dI)) (ci := 1) (v := .int (I 18)) (C := RX1) (T := TX1) (N := 3) hx hb hts inX1_add_X1 hown hK hP 20 (eC_20 a cy I A T) rfl 2 (by decide) (hts _ mX1_add_0) (fun _ h9 => h9) rfl dX1_add_14 ?_
    refine lv_iload_n hx hb dX1_add_17 rfl (lv_at hl 1 rfl) ?_
    obtain ⟨i2, h⟩ := inb_some h
    refine g_iast (f := (A 12)) (j := ((I 18)).toNatClampNeg) hx hb hK hP hD hS 21 (eC_21 a cy I A T) i2 rfl dX1_add_18 (sC_21 a cy I A T (upd (A 12) ((I 18)).toNatClampNeg p1)) (fun H locs hP hD hS => ?_)
    refine lv_aload_n hx hb dX1_add_19 rfl (lv_at hl 0 rfl) ?_
    refine va_get (D := (dC, dI)) (ci := 1) (v := .ref (a 22)) (C := RX1) (T := TX1) (N := 3) hx hb hts inX1_add_X1 hown hK hP 20 (eC_20 a cy I (va_up A 12 (upd (A 12) ((I 18)).toNatClampNeg p1)) T) rfl 1 (by decide) (hts _ mX1_add_2) (fun _ h9 => h9) rfl dX1_add_20 ?_
    refine lv_aload_n hx hb dX1_add_23 rfl (lv_at hl 0 rfl) ?_
    refine va_get (D := (dC, dI)) (ci := 1) (v := .int (I 18)) (C := RX1) (T := TX1) (N := 3) hx hb hts inX1_add_X1 hown hK hP 20 (eC_20 a cy I (va_up A 12 (upd (A 12) ((I 18)).toNatClampNeg p1)) T) rfl 2 (by decide) (hts _ mX1_add_0) (fun _ h9 => h9) rfl dX1_add_24 ?_
    refine lv_iload_n hx hb dX1_add_27 rfl (lv_at hl 2 rfl) ?_
    refine g_iast (f := (A 13)) (j := ((I 18)).toNatClampNeg) hx hb hK hP hD hS 22 (eC_22 a cy I (va_up A 12 (upd (A 12) ((I 18)).toNatClampNeg p1)) T) i2 rfl dX1_add_28 (sC_22 a cy I (va_up A 12 (upd (A 12) ((I 18)).toNatClampNeg p1)) T (upd (A 13) ((I 18)).toNatClampNeg p2)) (fun H locs hP hD hS => ?_)
    refine lv_aload_n hx hb dX1_add_29 rfl (lv_at hl 0 rfl) ?_
    refine lv_dup hx hb dX1_add_30 rfl ?_
    refine va_get (D := (dC, dI)) (ci := 1) (v := .int (I 18)) (C := RX1) (T := TX1) (N := 3) hx hb hts inX1_add_X1 hown hK hP 20 (eC_20 a cy I (va_up (va_up A 12 (upd (A 12) ((I 18)).toNatClampNeg p1)) 13 (upd (A 13) ((I 18)).toNatClampNeg p2)) T) rfl 2 (by decide) (hts _ mX1_add_0) (fun _ h9 => h9) rfl dX1_add_31 ?_
    refine lv_iconst (v := 1) hx hb dX1_add_34 (by decide) ?_
    refine lv_iadd hx hb dX1_add_35 ?_
    refine g_put (D := (dC, dI)) (ci := 1) (v := .int ((I 18) + 1)) (ty := .int) (C := RX1) (T := TX1) (N := 3) hx hb hts inX1_add_X1 tyX1 tyX1_ok nmX1 hown hK hP hD hS 20 (eC_20 a cy I (va_up (va_up A 12 (upd (A 12) ((I 18)).toNatClampNeg p1)) 13 (upd (A 13) ((I 18)).toNatClampNeg p2)) T) rfl 2 (by decide) (hts _ mX1_add_0) (fun _ h9 => h9) rfl (by decide +kernel) rfl rfl (Nat.le_of_ble_eq_true rfl) dX1_add_36 (pC_20_2 a cy I (va_up (va_up A 12 (upd (A 12) ((I 18)).toNatClampNeg p1)) 13 (upd (A 13) ((I 18)).toNatClampNeg p2)) T ((I 18) + 1)) (fun H locs hP hD hS => ?_)
    cases h
    exact g_vret hx hb hr hK hP hD hS hQ dX1_add_39
theorem inX7_hears_X7 : ∀ w ∈ u_ws RX7 TX7 9, w ∈ wsX7_hears := by decide +kernel
theorem mX7_hears_0 : Cond.fieldLink RX7 53 "WarmBottles" "heard" "LWarmBottles$Heard;" ∈ wsX7_hears := List.mem_of_getElem? (i := 1) rfl
theorem inX7_hears_X1 : ∀ w ∈ u_ws RX1 TX1 3, w ∈ wsX7_hears := by decide +kernel
theorem mX7_hears_1 : Cond.fieldLink RX7 91 "WarmBottles$Heard" "number" "I" ∈ wsX7_hears := List.mem_of_getElem? (i := 2) rfl
def rm_X7_hears_C : Room := { frames := 5, cells := 0, slots := 0, locals := 270 }
def f_X7_hears_C (N : Nat) (I : Nat → Int32) (A : Nat → Nat → Int32) (p1 : Int32) (p2 : Int32) : Option (Int32 × (Nat → Int32) × (Nat → Nat → Int32)) := (if p1 < 0 then some ((-1), I, A) else (if 9 < p1 then some ((-1), I, A) else (if p2 < 0 then some ((-1), I, A) else (if p2 ≤ 2 then (if (I 18) < 6 then (Option.bind (f_X1_add_C N I A p1 p2) (fun r6 => some ((r6.1 18), r6.1, r6.2))) else some ((-3), I, A)) else some ((-1), I, A)))))
set_option maxHeartbeats 4000000 in
set_option maxRecDepth 100000 in
theorem c_X7_hears_C (l : Launch) (dC : Nat → ClassId) (dI : Nat → Nat → Nat) (a : Nat → Nat) (cy : Nat → ClassId) (N : Nat) (I : Nat → Int32) (A : Nat → Nat → Int32) (T : Int64) (p1 : Int32) (p2 : Int32) (res : Int32 × (Nat → Int32) × (Nat → Nat → Int32)) (h : f_X7_hears_C N I A p1 p2 = some res) (sz : Nat) : Met l yX7_hears wsX7_hears rm_X7_hears_C (g_Pre (dC, dI) cy [.ref (a 0), .int p1, .int p2] (wC a cy I A T) sz) (g_Qi (dC, dI) cy res.1 (wC a cy I A T) (wC a cy res.2.1 res.2.2 T) sz) 0 0 (va_A (wC a cy I A T) sz) := by
  unfold f_X7_hears_C at h
  refine g_entry _ _ _ _ _ _ (cc := cX7_hears) (maxL := 3) (ret := (some .int)) (by decide) rfl (Nat.le_of_ble_eq_true rfl) ?_
  intro p e s m args below meth c ls hx hb hml hown hts hr hlocks hA hK hP hD hS hl Q hQ
  have hl : lv_has ls 3 [(0, .ref (a 0)), (1, .int p1), (2, .int p2)] := hl
  have hown : s.vm.findClass RX7 = some m.cls := hown
  refine lv_iload_n hx hb dX7_hears_0 rfl (lv_at hl 1 rfl) ?_
  refine lv_if_lt (tgt := 19) hx hb dX7_hears_1 (by decide) (fun c1 => ?_) (fun c1 => ?_)
  · replace h := ite_t h c1
    refine lv_iconst (v := (-1)) hx hb dX7_hears_19 (by decide) ?_
    cases h
    exact g_iret hx hb hr hK hP hD hS hQ dX7_hears_20
  · replace h := ite_f h c1
    refine lv_iload_n hx hb dX7_hears_4 rfl (lv_at hl 1 rfl) ?_
    refine lv_bipush (v := 9) hx hb dX7_hears_5 (by decide) ?_
    refine lv_icmp_gt (tgt := 19) hx hb dX7_hears_7 (by decide) (fun c2 => ?_) (fun c2 => ?_)
    · replace h := ite_t h c2
      refine lv_iconst (v := (-1)) hx hb dX7_hears_19 (by decide) ?_
      cases h
      exact g_iret hx hb hr hK hP hD hS hQ dX7_hears_20
    · replace h := ite_f h c2
      refine lv_iload_n hx hb dX7_hears_10 rfl (lv_at hl 2 rfl) ?_
      refine lv_if_lt (tgt := 19) hx hb dX7_hears_11 (by decide) (fun c3 => ?_) (fun c3 => ?_)
      · replace h := ite_t h c3
        refine lv_iconst (v := (-1)) hx hb dX7_hears_19 (by decide) ?_
        cases h
        exact g_iret hx hb hr hK hP hD hS hQ dX7_hears_20
      · replace h := ite_f h c3
        refine lv_iload_n hx hb dX7_hears_14 rfl (lv_at hl 2 rfl) ?_
        refine lv_iconst (v := 2) hx hb dX7_hears_15 (by decide) ?_
        refine lv_icmp_le (tgt := 21) hx hb dX7_hears_16 (by decide) (fun c4 => ?_) (fun c4 => ?_)
        · replace h := ite_t h c4
          refine lv_aload_n hx hb dX7_hears_21 rfl (lv_at hl 0 rfl) ?_
          refine va_get (D := (dC, dI)) (ci := 7) (v := .ref (a 20)) (C := RX7) (T := TX7) (N := 9) hx hb hts inX7_hears_X7 hown hK hP 0 (eC_0 a cy I A T) rfl 6 (by decide) (hts _ mX7_hears_0) (fun _ h9 => h9) rfl dX7_hears_22 ?_
          refine va_get (D := (dC, dI)) (ci := 1) (v := .int (I 18)) (C := RX1) (T := TX1) (N := 3) hx hb hts inX7_hears_X1 hown hK hP 20 (eC_20 a cy I A T) rfl 2 (by decide) (hts _ mX7_hears_1) (fun _ h9 => h9) rfl dX7_hears_25 ?_
          refine lv_bipush (v := 6) hx hb dX7_hears_28 (by decide) ?_
          refine lv_icmp_lt (tgt := 36) hx hb dX7_hears_30 (by decide) (fun c5 => ?_) (fun c5 => ?_)
          · replace h := ite_t h c5
            refine lv_aload_n hx hb dX7_hears_36 rfl (lv_at hl 0 rfl) ?_
            refine va_get (D := (dC, dI)) (ci := 7) (v := .ref (a 20)) (C := RX7) (T := TX7) (N := 9) hx hb hts inX7_hears_X7 hown hK hP 0 (eC_0 a cy I A T) rfl 6 (by decide) (hts _ mX7_hears_0) (fun _ h9 => h9) rfl dX7_hears_37 ?_
            refine lv_iload_n hx hb dX7_hears_40 rfl (lv_at hl 1 rfl) ?_
            refine lv_iload_n hx hb dX7_hears_41 rfl (lv_at hl 2 rfl) ?_
            obtain ⟨r6, hr6, h⟩ := bnd_some h
            refine g_callVv (As := [.int p1, .int p2]) (rest := []) (ci := 1) (q0 := 20) hx hb hml hown hts (c_X1_add_C l dC dI a cy N I A T p1 p2 r6 hr6) (cwV 2 hts gX7_hears_X1_add rfl rfl rfl (by decide +kernel) ⟨Nat.le_of_ble_eq_true rfl, Nat.le_of_ble_eq_true rfl⟩) hK hP hD hS hA rfl (eC_20 a cy I A T) rfl rfl hl.1 rfl (Nat.le_of_ble_eq_true rfl) dX7_hears_42 (fun H locs hP hD hS => ?_)
            refine lv_aload_n hx hb dX7_hears_45 rfl (lv_at hl 0 rfl) ?_
            refine va_get (D := (dC, dI)) (ci := 7) (v := .ref (a 20)) (C := RX7) (T := TX7) (N := 9) hx hb hts inX7_hears_X7 hown hK hP 0 (eC_0 a cy r6.1 r6.2 T) rfl 6 (by decide) (hts _ mX7_hears_0) (fun _ h9 => h9) rfl dX7_hears_46 ?_
            refine va_get (D := (dC, dI)) (ci := 1) (v := .int (r6.1 18)) (C := RX1) (T := TX1) (N := 3) hx hb hts inX7_hears_X1 hown hK hP 20 (eC_20 a cy r6.1 r6.2 T) rfl 2 (by decide) (hts _ mX7_hears_1) (fun _ h9 => h9) rfl dX7_hears_49 ?_
            cases h
            exact g_iret hx hb hr hK hP hD hS hQ dX7_hears_52
          · replace h := ite_f h c5
            refine lv_bipush (v := (-3)) hx hb dX7_hears_33 (by decide) ?_
            cases h
            exact g_iret hx hb hr hK hP hD hS hQ dX7_hears_35
        · replace h := ite_f h c4
          refine lv_iconst (v := (-1)) hx hb dX7_hears_19 (by decide) ?_
          cases h
          exact g_iret hx hb hr hK hP hD hS hQ dX7_hears_20
theorem inX7_forget_X7 : ∀ w ∈ u_ws RX7 TX7 9, w ∈ wsX7_forget := by decide +kernel
theorem mX7_forget_0 : Cond.fieldLink RX7 53 "WarmBottles" "heard" "LWarmBottles$Heard;" ∈ wsX7_forget := List.mem_of_getElem? (i := 1) rfl
theorem inX7_forget_X1 : ∀ w ∈ u_ws RX1 TX1 3, w ∈ wsX7_forget := by decide +kernel
theorem mX7_forget_1 : Cond.fieldLink RX7 91 "WarmBottles$Heard" "number" "I" ∈ wsX7_forget := List.mem_of_getElem? (i := 2) rfl
def rm_X7_forget_C : Room := { frames := 3, cells := 0, slots := 0, locals := 210 }
def f_X7_forget_C (N : Nat) (I : Nat → Int32) (A : Nat → Nat → Int32)  : Option (Int32 × (Nat → Int32)) := some ((I 18), (upd I 18 0))
set_option maxHeartbeats 4000000 in
set_option maxRecDepth 100000 in
theorem c_X7_forget_C (l : Launch) (dC : Nat → ClassId) (dI : Nat → Nat → Nat) (a : Nat → Nat) (cy : Nat → ClassId) (N : Nat) (I : Nat → Int32) (A : Nat → Nat → Int32) (T : Int64)  (res : Int32 × (Nat → Int32)) (h : f_X7_forget_C N I A  = some res) (sz : Nat) : Met l yX7_forget wsX7_forget rm_X7_forget_C (g_Pre (dC, dI) cy [.ref (a 0)] (wC a cy I A T) sz) (g_Qi (dC, dI) cy res.1 (wC a cy I A T) (wC a cy res.2 A T) sz) 0 0 (va_A (wC a cy I A T) sz) := by
  unfold f_X7_forget_C at h
  refine g_entry _ _ _ _ _ _ (cc := cX7_forget) (maxL := 2) (ret := (some .int)) (by decide) rfl (Nat.le_of_ble_eq_true rfl) ?_
  intro p e s m args below meth c ls hx hb hml hown hts hr hlocks hA hK hP hD hS hl Q hQ
  have hl : lv_has ls 2 [(0, .ref (a 0))] := hl
  have hown : s.vm.findClass RX7 = some m.cls := hown
  refine lv_aload_n hx hb dX7_forget_0 rfl (lv_at hl 0 rfl) ?_
  refine va_get (D := (dC, dI)) (ci := 7) (v := .ref (a 20)) (C := RX7) (T := TX7) (N := 9) hx hb hts inX7_forget_X7 hown hK hP 0 (eC_0 a cy I A T) rfl 6 (by decide) (hts _ mX7_forget_0) (fun _ h9 => h9) rfl dX7_forget_1 ?_
  refine va_get (D := (dC, dI)) (ci := 1) (v := .int (I 18)) (C := RX1) (T := TX1) (N := 3) hx hb hts inX7_forget_X1 hown hK hP 20 (eC_20 a cy I A T) rfl 2 (by decide) (hts _ mX7_forget_1) (fun _ h9 => h9) rfl dX7_forget_4 ?_
  refine lv_istore_n (lv' := [(1, .int (I 18)), (0, .ref (a 0))]) hx hb dX7_forget_7 rfl hl (by decide) rfl (fun ls hl => ?_)
  refine lv_aload_n hx hb dX7_forget_8 rfl (lv_at hl 1 rfl) ?_
  refine va_get (D := (dC, dI)) (ci := 7) (v := .ref (a 20)) (C := RX7) (T := TX7) (N := 9) hx hb hts inX7_forget_X7 hown hK hP 0 (eC_0 a cy I A T) rfl 6 (by decide) (hts _ mX7_forget_0) (fun _ h9 => h9) rfl dX7_forget_9 ?_
  refine lv_iconst (v := 0) hx hb dX7_forget_12 (by decide) ?_
  refine g_put (D := (dC, dI)) (ci := 1) (v := .int 0) (ty := .int) (C := RX1) (T := TX1) (N := 3) hx hb hts inX7_forget_X1 tyX1 tyX1_ok nmX1 hown hK hP hD hS 20 (eC_20 a cy I A T) rfl 2 (by decide) (hts _ mX7_forget_1) (fun _ h9 => h9) rfl (by decide +kernel) rfl rfl (Nat.le_of_ble_eq_true rfl) dX7_forget_13 (pC_20_2 a cy I A T 0) (fun H locs hP hD hS => ?_)
  refine lv_iload_n hx hb dX7_forget_16 rfl (lv_at hl 0 rfl) ?_
  cases h
  exact g_iret hx hb hr hK hP hD hS hQ dX7_forget_17
theorem inX1_fits_X1 : ∀ w ∈ u_ws RX1 TX1 3, w ∈ wsX1_fits := by decide +kernel
theorem mX1_fits_0 : Cond.fieldLink RX1 18 "WarmBottles$Heard" "number" "I" ∈ wsX1_fits := List.mem_of_getElem? (i := 1) rfl
theorem mX1_fits_1 : Cond.fieldLink RX1 9 "WarmBottles$Heard" "hours" "[I" ∈ wsX1_fits := List.mem_of_getElem? (i := 2) rfl
theorem mX1_fits_2 : Cond.fieldLink RX1 15 "WarmBottles$Heard" "sounds" "[I" ∈ wsX1_fits := List.mem_of_getElem? (i := 3) rfl
def rm_X1_fits_C : Room := { frames := 7, cells := 0, slots := 0, locals := 330 }
def f_X1_fits_C_L2 (N : Nat) (k_2 : Int32 → Option (Int32)) (x2 : Int32) (I : (Nat → Int32)) (A : (Nat → Nat → Int32)) : Nat → Int32 → Option (Int32)
  | 0, _ => none
  | n_2 + 1, x3 => (if (I 18) ≤ x3 then (k_2 x3) else (if 6 ≤ x3 then (k_2 x3) else (if x3 < 0 ∨ 6 ≤ x3.toNatClampNeg then none else (Option.bind (f_X3_soundIn_C N I A x2 ((A 12) x3.toNatClampNeg)) (fun r4 => (if r4 = ((A 13) x3.toNatClampNeg) then (f_X1_fits_C_L2 N k_2 x2 I A n_2 (x3 + 1)) else some 0))))))
def f_X1_fits_C (N : Nat) (I : Nat → Int32) (A : Nat → Nat → Int32) (p2 : Int32) : Option (Int32) := (f_X1_fits_C_L2 N (fun (x3 : Int32) => some 1) p2 I A N 0)
set_option maxHeartbeats 4000000 in
set_option maxRecDepth 100000 in
theorem c_X1_fits_C (l : Launch) (dC : Nat → ClassId) (dI : Nat → Nat → Nat) (a : Nat → Nat) (cy : Nat → ClassId) (N : Nat) (I : Nat → Int32) (A : Nat → Nat → Int32) (T : Int64) (p2 : Int32) (res : Int32) (h : f_X1_fits_C N I A p2 = some res) (sz : Nat) : Met l yX1_fits wsX1_fits rm_X1_fits_C (g_Pre (dC, dI) cy [.ref (a 20), .ref (a 7), .int p2] (wC a cy I A T) sz) (g_Qi (dC, dI) cy res (wC a cy I A T) (wC a cy I A T) sz) 0 0 (va_A (wC a cy I A T) sz) := by
  unfold f_X1_fits_C at h
  refine g_entry _ _ _ _ _ _ (cc := cX1_fits) (maxL := 4) (ret := (some .boolean)) (by decide) rfl (Nat.le_of_ble_eq_true rfl) ?_
  intro p e s m args below meth c ls hx hb hml hown hts hr hlocks hA hK hP hD hS hl Q hQ
  have hl : lv_has ls 4 [(0, .ref (a 20)), (1, .ref (a 7)), (2, .int p2)] := hl
  have hown : s.vm.findClass RX1 = some m.cls := hown
  refine lv_iconst (v := 0) hx hb dX1_fits_0 (by decide) ?_
  refine lv_istore_n (lv' := [(3, .int 0), (0, .ref (a 20)), (1, .ref (a 7)), (2, .int p2)]) hx hb dX1_fits_1 rfl hl (by decide) rfl (fun ls hl => ?_)
  have lp2 : ∀ (x2 : Int32) (k_2 : Int32 → Option (Int32)), (∀ (x3 : Int32), k_2 x3 = some res → g_At (dC, dI) p l e (headSpec wsX1_fits rm_X1_fits_C).room s m args below meth c Q (wC a cy I A T) sz 4 (wC a cy I A T) [] 44 []) → ∀ (n_2 : Nat) (x3 : Int32), f_X1_fits_C_L2 N k_2 x2 I A n_2 x3 = some res → g_At (dC, dI) p l e (headSpec wsX1_fits rm_X1_fits_C).room s m args below meth c Q (wC a cy I A T) sz 4 (wC a cy I A T) [(0, .ref (a 20)), (1, .ref (a 7)), (2, .int x2), (3, .int x3)] 2 [] := by
    intro x2 k_2 hk_2 n_2
    induction n_2 with
    | zero =>
      intro x3 h
      exact absurd h (by rw [f_X1_fits_C_L2]; exact fun q => by cases q)
    | succ n_2 ih2 =>
      intro x3 h H locs hP hD hS ls hl
      rw [f_X1_fits_C_L2] at h
      refine lv_iload_n hx hb dX1_fits_2 rfl (lv_at hl 3 rfl) ?_
      refine lv_aload_n hx hb dX1_fits_3 rfl (lv_at hl 0 rfl) ?_
      refine va_get (D := (dC, dI)) (ci := 1) (v := .int (I 18)) (C := RX1) (T := TX1) (N := 3) hx hb hts inX1_fits_X1 hown hK hP 20 (eC_20 a cy I A T) rfl 2 (by decide) (hts _ mX1_fits_0) (fun _ h9 => h9) rfl dX1_fits_4 ?_
      refine lv_icmp_ge (tgt := 44) hx hb dX1_fits_7 (by decide) (fun c1 => ?_) (fun c1 => ?_)
      · replace h := ite_t h c1
        exact hk_2 _ h _ _ hP hD hS _ (lv_sub hl [] rfl)
      · replace h := ite_f h c1
        refine lv_iload_n hx hb dX1_fits_10 rfl (lv_at hl 3 rfl) ?_
        refine lv_bipush (v := 6) hx hb dX1_fits_11 (by decide) ?_
        refine lv_icmp_ge (tgt := 44) hx hb dX1_fits_13 (by decide) (fun c2 => ?_) (fun c2 => ?_)
        · replace h := ite_t h c2
          exact hk_2 _ h _ _ hP hD hS _ (lv_sub hl [] rfl)
        · replace h := ite_f h c2
          refine lv_aload_n hx hb dX1_fits_16 rfl (lv_at hl 1 rfl) ?_
          refine lv_iload_n hx hb dX1_fits_17 rfl (lv_at hl 2 rfl) ?_
          refine lv_aload_n hx hb dX1_fits_18 rfl (lv_at hl 0 rfl) ?_
          refine va_get (D := (dC, dI)) (ci := 1) (v := .ref (a 21)) (C := RX1) (T := TX1) (N := 3) hx hb hts inX1_fits_X1 hown hK hP 20 (eC_20 a cy I A T) rfl 0 (by decide) (hts _ mX1_fits_1) (fun _ h9 => h9) rfl dX1_fits_19 ?_
          refine lv_iload_n hx hb dX1_fits_22 rfl (lv_at hl 3 rfl) ?_
          obtain ⟨i3, h⟩ := inb_some h
          refine g_iald (f := (A 12)) (j := x3.toNatClampNeg) hx hb hK hP 21 (eC_21 a cy I A T) i3 rfl dX1_fits_23 ?_
          obtain ⟨r4, hr4, h⟩ := bnd_some h
          refine g_callVi (As := [.int x2, .int ((A 12) x3.toNatClampNeg)]) (rest := []) (ci := 3) (q0 := 7) hx hb hml hown hts (c_X3_soundIn_C l dC dI a cy N I A T x2 ((A 12) x3.toNatClampNeg) r4 hr4) (cwV 2 hts gX1_fits_X3_soundIn rfl rfl rfl (by decide +kernel) ⟨Nat.le_of_ble_eq_true rfl, Nat.le_of_ble_eq_true rfl⟩) hK hP hD hS hA rfl (eC_7 a cy I A T) rfl rfl hl.1 rfl (Nat.le_of_ble_eq_true rfl) dX1_fits_24 (fun H locs hP hD hS => ?_)
          refine lv_aload_n hx hb dX1_fits_27 rfl (lv_at hl 0 rfl) ?_
          refine va_get (D := (dC, dI)) (ci := 1) (v := .ref (a 22)) (C := RX1) (T := TX1) (N := 3) hx hb hts inX1_fits_X1 hown hK hP 20 (eC_20 a cy I A T) rfl 1 (by decide) (hts _ mX1_fits_2) (fun _ h9 => h9) rfl dX1_fits_28 ?_
          refine lv_iload_n hx hb dX1_fits_31 rfl (lv_at hl 3 rfl) ?_
          refine g_iald (f := (A 13)) (j := x3.toNatClampNeg) hx hb hK hP 22 (eC_22 a cy I A T) i3 rfl dX1_fits_32 ?_
          refine lv_icmp_eq (tgt := 38) hx hb dX1_fits_33 (by decide) (fun c5 => ?_) (fun c5 => ?_)
          · replace h := ite_t h c5
            refine lv_iinc (v := (x3 + 1)) (lv' := [(3, .int (x3 + 1)), (0, .ref (a 20)), (1, .ref (a 7)), (2, .int x2)]) hx hb dX1_fits_38 hl (k := 3) rfl rfl (by decide) rfl (fun ls hl => ?_)
            refine lv_goto (tgt := 2) hx hb dX1_fits_41 (by decide) ?_
            exact ih2 _ h _ _ hP hD hS _ (lv_sub hl [1, 2, 3, 0] rfl)
          · replace h := ite_f h c5
            refine lv_iconst (v := 0) hx hb dX1_fits_36 (by decide) ?_
            cases h
            exact g_zret hx hb hr (by decide) hK hP hD hS hQ dX1_fits_37
  refine lp2 _ _ ?_ N _ h _ _ hP hD hS _ (lv_sub hl [1, 2, 3, 0] rfl)
  intro x3 h H locs hP hD hS ls hl
  refine lv_iconst (v := 1) hx hb dX1_fits_44 (by decide) ?_
  cases h
  exact g_zret hx hb hr (by decide) hK hP hD hS hQ dX1_fits_45
