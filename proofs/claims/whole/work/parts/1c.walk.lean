theorem inX7_ward_X7 : ∀ w ∈ u_ws RX7 TX7 9, w ∈ wsX7_ward := by decide +kernel
theorem mX7_ward_0 : Cond.fieldLink RX7 10 "WarmBottles" "text" "LWarmBottles$Text;" ∈ wsX7_ward := List.mem_of_getElem? (i := 1) rfl
theorem mX7_ward_1 : Cond.fieldLink RX7 19 "WarmBottles" "draft" "LWarmBottles$Told;" ∈ wsX7_ward := List.mem_of_getElem? (i := 2) rfl
theorem mX7_ward_2 : Cond.fieldLink RX7 26 "WarmBottles" "night" "LWarmBottles$Night;" ∈ wsX7_ward := List.mem_of_getElem? (i := 3) rfl
theorem inX7_ward_X3 : ∀ w ∈ u_ws RX3 TX3 6, w ∈ wsX7_ward := by decide +kernel
theorem mX7_ward_3 : Cond.fieldLink RX7 76 "WarmBottles$Night" "told" "LWarmBottles$Told;" ∈ wsX7_ward := List.mem_of_getElem? (i := 4) rfl
theorem mX7_ward_4 : Cond.fieldLink RX7 33 "WarmBottles" "past" "LWarmBottles$Past;" ∈ wsX7_ward := List.mem_of_getElem? (i := 5) rfl
theorem inX7_ward_X4 : ∀ w ∈ u_ws RX4 TX4 3, w ∈ wsX7_ward := by decide +kernel
theorem mX7_ward_5 : Cond.fieldLink RX7 86 "WarmBottles$Past" "known" "I" ∈ wsX7_ward := List.mem_of_getElem? (i := 6) rfl
theorem mX7_ward_6 : Cond.fieldLink RX7 53 "WarmBottles" "heard" "LWarmBottles$Heard;" ∈ wsX7_ward := List.mem_of_getElem? (i := 7) rfl
theorem inX7_ward_X1 : ∀ w ∈ u_ws RX1 TX1 3, w ∈ wsX7_ward := by decide +kernel
theorem mX7_ward_7 : Cond.fieldLink RX7 89 "WarmBottles$Heard" "number" "I" ∈ wsX7_ward := List.mem_of_getElem? (i := 8) rfl
theorem inX7_ward_X5 : ∀ w ∈ u_ws RX5 TX5 8, w ∈ wsX7_ward := by decide +kernel
theorem mX7_ward_8 : Cond.fieldLink RX7 64 "WarmBottles$Text" "length" "I" ∈ wsX7_ward := List.mem_of_getElem? (i := 10) rfl
theorem mX7_ward_9 : Cond.fieldLink RX7 46 "WarmBottles" "imageKept" "[Z" ∈ wsX7_ward := List.mem_of_getElem? (i := 9) rfl
def rm_X7_ward_C : Room := { frames := 17, cells := 0, slots := 0, locals := 630 }
def f_X7_ward_C_L57 (N : Nat) (k_57 : Int32 → (Nat → Nat → Int32) → Option (Int32 × (Nat → Int32) × (Nat → Nat → Int32))) (x1 : Int32) (I_57 : (Nat → Int32)) : Nat → Int32 → (Nat → Nat → Int32) → Option (Int32 × (Nat → Int32) × (Nat → Nat → Int32))
  | 0, _, _ => none
  | n_57 + 1, x2, A_57 => (if 2 ≤ x2 then (k_57 x2 A_57) else (if x2 < 0 ∨ 2 ≤ x2.toNatClampNeg then none else (f_X7_ward_C_L57 N k_57 x1 I_57 n_57 (x2 + 1) (va_up A_57 11 (upd (A_57 11) x2.toNatClampNeg (vp_nar .boolean 0))))))
def f_X7_ward_C (N : Nat) (I : Nat → Int32) (A : Nat → Nat → Int32)  : Option (Int32 × (Nat → Int32) × (Nat → Nat → Int32)) := (Option.bind (f_X5_read_C N I A) (fun r1 => (if 0 ≤ r1.1 then (Option.bind (f_X6_become_C N r1.2.1 r1.2.2) (fun r3 => (Option.bind (f_X3_begin_C N r3.1 r3.2) (fun r4 => (f_X7_ward_C_L57 N (fun (x2 : Int32) (A_57 : (Nat → Nat → Int32)) => some (r1.1, (upd (upd (upd r4.1 17 0) 18 0) 0 0), A_57)) r1.1 (upd (upd r4.1 17 0) 18 0) N 0 r4.2))))) else some (r1.1, r1.2.1, r1.2.2))))
set_option maxHeartbeats 4000000 in
set_option maxRecDepth 100000 in
theorem c_X7_ward_C (l : Launch) (dC : Nat → ClassId) (dI : Nat → Nat → Nat) (a : Nat → Nat) (cy : Nat → ClassId) (N : Nat) (I : Nat → Int32) (A : Nat → Nat → Int32) (T : Int64)  (res : Int32 × (Nat → Int32) × (Nat → Nat → Int32)) (h : f_X7_ward_C N I A  = some res) (sz : Nat) : Met l yX7_ward wsX7_ward rm_X7_ward_C (g_Pre (dC, dI) cy [.ref (a 0)] (wC a cy I A T) sz) (g_Qi (dC, dI) cy res.1 (wC a cy I A T) (wC a cy res.2.1 res.2.2 T) sz) 0 0 (va_A (wC a cy I A T) sz) := by
  unfold f_X7_ward_C at h
  refine g_entry _ _ _ _ _ _ (cc := cX7_ward) (maxL := 3) (ret := (some .int)) (by decide) rfl (Nat.le_of_ble_eq_true rfl) ?_
  intro p e s m args below meth c ls hx hb hml hown hts hr hlocks hA hK hP hD hS hl Q hQ
  have hl : lv_has ls 3 [(0, .ref (a 0))] := hl
  have hown : s.vm.findClass RX7 = some m.cls := hown
  refine lv_aload_n hx hb dX7_ward_0 rfl (lv_at hl 0 rfl) ?_
  refine va_get (D := (dC, dI)) (ci := 7) (v := .ref (a 1)) (C := RX7) (T := TX7) (N := 9) hx hb hts inX7_ward_X7 hown hK hP 0 (eC_0 a cy I A T) rfl 0 (by decide) (hts _ mX7_ward_0) (fun _ h9 => h9) rfl dX7_ward_1 ?_
  refine lv_aload_n hx hb dX7_ward_4 rfl (lv_at hl 0 rfl) ?_
  refine va_get (D := (dC, dI)) (ci := 7) (v := .ref (a 3)) (C := RX7) (T := TX7) (N := 9) hx hb hts inX7_ward_X7 hown hK hP 0 (eC_0 a cy I A T) rfl 1 (by decide) (hts _ mX7_ward_1) (fun _ h9 => h9) rfl dX7_ward_5 ?_
  obtain ⟨r1, hr1, h⟩ := bnd_some h
  refine g_callVi (As := [.ref (a 3)]) (rest := []) (ci := 5) (q0 := 1) hx hb hml hown hts (c_X5_read_C l dC dI a cy N I A T r1 hr1) (cwV 1 hts gX7_ward_X5_read rfl rfl rfl (by decide +kernel) ⟨Nat.le_of_ble_eq_true rfl, Nat.le_of_ble_eq_true rfl⟩) hK hP hD hS hA rfl (eC_1 a cy I A T) rfl rfl hl.1 rfl (Nat.le_of_ble_eq_true rfl) dX7_ward_8 (fun H locs hP hD hS => ?_)
  refine lv_istore_n (lv' := [(1, .int r1.1), (0, .ref (a 0))]) hx hb dX7_ward_11 rfl hl (by decide) rfl (fun ls hl => ?_)
  refine lv_iload_n hx hb dX7_ward_12 rfl (lv_at hl 0 rfl) ?_
  refine lv_if_ge (tgt := 18) hx hb dX7_ward_13 (by decide) (fun c2 => ?_) (fun c2 => ?_)
  · replace h := ite_t h c2
    refine lv_aload_n hx hb dX7_ward_18 rfl (lv_at hl 1 rfl) ?_
    refine va_get (D := (dC, dI)) (ci := 7) (v := .ref (a 7)) (C := RX7) (T := TX7) (N := 9) hx hb hts inX7_ward_X7 hown hK hP 0 (eC_0 a cy r1.2.1 r1.2.2 T) rfl 2 (by decide) (hts _ mX7_ward_2) (fun _ h9 => h9) rfl dX7_ward_19 ?_
    refine va_get (D := (dC, dI)) (ci := 3) (v := .ref (a 8)) (C := RX3) (T := TX3) (N := 6) hx hb hts inX7_ward_X3 hown hK hP 7 (eC_7 a cy r1.2.1 r1.2.2 T) rfl 0 (by decide) (hts _ mX7_ward_3) (fun _ h9 => h9) rfl dX7_ward_22 ?_
    refine lv_aload_n hx hb dX7_ward_25 rfl (lv_at hl 1 rfl) ?_
    refine va_get (D := (dC, dI)) (ci := 7) (v := .ref (a 3)) (C := RX7) (T := TX7) (N := 9) hx hb hts inX7_ward_X7 hown hK hP 0 (eC_0 a cy r1.2.1 r1.2.2 T) rfl 1 (by decide) (hts _ mX7_ward_1) (fun _ h9 => h9) rfl dX7_ward_26 ?_
    obtain ⟨r3, hr3, h⟩ := bnd_some h
    refine g_callVv (As := [.ref (a 3)]) (rest := []) (ci := 6) (q0 := 8) hx hb hml hown hts (c_X6_become_C l dC dI a cy N r1.2.1 r1.2.2 T r3 hr3) (cwV 1 hts gX7_ward_X6_become rfl rfl rfl (by decide +kernel) ⟨Nat.le_of_ble_eq_true rfl, Nat.le_of_ble_eq_true rfl⟩) hK hP hD hS hA rfl (eC_8 a cy r1.2.1 r1.2.2 T) rfl rfl hl.1 rfl (Nat.le_of_ble_eq_true rfl) dX7_ward_29 (fun H locs hP hD hS => ?_)
    refine lv_aload_n hx hb dX7_ward_32 rfl (lv_at hl 1 rfl) ?_
    refine va_get (D := (dC, dI)) (ci := 7) (v := .ref (a 7)) (C := RX7) (T := TX7) (N := 9) hx hb hts inX7_ward_X7 hown hK hP 0 (eC_0 a cy r3.1 r3.2 T) rfl 2 (by decide) (hts _ mX7_ward_2) (fun _ h9 => h9) rfl dX7_ward_33 ?_
    obtain ⟨r4, hr4, h⟩ := bnd_some h
    refine g_callVv (As := []) (rest := []) (ci := 3) (q0 := 7) hx hb hml hown hts (c_X3_begin_C l dC dI a cy N r3.1 r3.2 T r4 hr4) (cwV 0 hts gX7_ward_X3_begin rfl rfl rfl (by decide +kernel) ⟨Nat.le_of_ble_eq_true rfl, Nat.le_of_ble_eq_true rfl⟩) hK hP hD hS hA rfl (eC_7 a cy r3.1 r3.2 T) rfl rfl hl.1 rfl (Nat.le_of_ble_eq_true rfl) dX7_ward_36 (fun H locs hP hD hS => ?_)
    refine lv_aload_n hx hb dX7_ward_39 rfl (lv_at hl 1 rfl) ?_
    refine va_get (D := (dC, dI)) (ci := 7) (v := .ref (a 14)) (C := RX7) (T := TX7) (N := 9) hx hb hts inX7_ward_X7 hown hK hP 0 (eC_0 a cy r4.1 r4.2 T) rfl 3 (by decide) (hts _ mX7_ward_4) (fun _ h9 => h9) rfl dX7_ward_40 ?_
    refine lv_iconst (v := 0) hx hb dX7_ward_43 (by decide) ?_
    refine g_put (D := (dC, dI)) (ci := 4) (v := .int 0) (ty := .int) (C := RX4) (T := TX4) (N := 3) hx hb hts inX7_ward_X4 tyX4 tyX4_ok nmX4 hown hK hP hD hS 14 (eC_14 a cy r4.1 r4.2 T) rfl 2 (by decide) (hts _ mX7_ward_5) (fun _ h9 => h9) rfl (by decide +kernel) rfl rfl (Nat.le_of_ble_eq_true rfl) dX7_ward_44 (pC_14_2 a cy r4.1 r4.2 T 0) (fun H locs hP hD hS => ?_)
    refine lv_aload_n hx hb dX7_ward_47 rfl (lv_at hl 1 rfl) ?_
    refine va_get (D := (dC, dI)) (ci := 7) (v := .ref (a 20)) (C := RX7) (T := TX7) (N := 9) hx hb hts inX7_ward_X7 hown hK hP 0 (eC_0 a cy (upd r4.1 17 0) r4.2 T) rfl 6 (by decide) (hts _ mX7_ward_6) (fun _ h9 => h9) rfl dX7_ward_48 ?_
    refine lv_iconst (v := 0) hx hb dX7_ward_51 (by decide) ?_
    refine g_put (D := (dC, dI)) (ci := 1) (v := .int 0) (ty := .int) (C := RX1) (T := TX1) (N := 3) hx hb hts inX7_ward_X1 tyX1 tyX1_ok nmX1 hown hK hP hD hS 20 (eC_20 a cy (upd r4.1 17 0) r4.2 T) rfl 2 (by decide) (hts _ mX7_ward_7) (fun _ h9 => h9) rfl (by decide +kernel) rfl rfl (Nat.le_of_ble_eq_true rfl) dX7_ward_52 (pC_20_2 a cy (upd r4.1 17 0) r4.2 T 0) (fun H locs hP hD hS => ?_)
    refine lv_iconst (v := 0) hx hb dX7_ward_55 (by decide) ?_
    refine lv_istore_n (lv' := [(2, .int 0), (1, .int r1.1), (0, .ref (a 0))]) hx hb dX7_ward_56 rfl hl (by decide) rfl (fun ls hl => ?_)
    have lp57 : ∀ (x1 : Int32) (I_57 : (Nat → Int32)) (k_57 : Int32 → (Nat → Nat → Int32) → Option (Int32 × (Nat → Int32) × (Nat → Nat → Int32))), (∀ (x2 : Int32) (A_57 : (Nat → Nat → Int32)), k_57 x2 A_57 = some res → g_At (dC, dI) p l e (headSpec wsX7_ward rm_X7_ward_C).room s m args below meth c Q (wC a cy I A T) sz 3 (wC a cy I_57 A_57 T) [(0, .ref (a 0)), (1, .int x1)] 79 []) → ∀ (n_57 : Nat) (x2 : Int32) (A_57 : (Nat → Nat → Int32)), f_X7_ward_C_L57 N k_57 x1 I_57 n_57 x2 A_57 = some res → g_At (dC, dI) p l e (headSpec wsX7_ward rm_X7_ward_C).room s m args below meth c Q (wC a cy I A T) sz 3 (wC a cy I_57 A_57 T) [(0, .ref (a 0)), (1, .int x1), (2, .int x2)] 57 [] := by
      intro x1 I_57 k_57 hk_57 n_57
      induction n_57 with
      | zero =>
        intro x2 A_57 h
        exact absurd h (by rw [f_X7_ward_C_L57]; exact fun q => by cases q)
      | succ n_57 ih57 =>
        intro x2 A_57 h H locs hP hD hS ls hl
        rw [f_X7_ward_C_L57] at h
        refine lv_iload_n hx hb dX7_ward_57 rfl (lv_at hl 2 rfl) ?_
        refine lv_aload_n hx hb dX7_ward_58 rfl (lv_at hl 0 rfl) ?_
        refine va_get (D := (dC, dI)) (ci := 7) (v := .ref (a 19)) (C := RX7) (T := TX7) (N := 9) hx hb hts inX7_ward_X7 hown hK hP 0 (eC_0 a cy I_57 A_57 T) rfl 5 (by decide) (hts _ mX7_ward_9) (fun _ h9 => h9) rfl dX7_ward_59 ?_
        refine va_alen (v := 2) hx hb hK hP 19 2 (eC_19 a cy I_57 A_57 T) rfl rfl dX7_ward_62 ?_
        refine lv_icmp_ge (tgt := 79) hx hb dX7_ward_63 (by decide) (fun c5 => ?_) (fun c5 => ?_)
        · replace h := ite_t h c5
          exact hk_57 _ _ h _ _ hP hD hS _ (lv_sub hl [0, 1] rfl)
        · replace h := ite_f h c5
          refine lv_aload_n hx hb dX7_ward_66 rfl (lv_at hl 0 rfl) ?_
          refine va_get (D := (dC, dI)) (ci := 7) (v := .ref (a 19)) (C := RX7) (T := TX7) (N := 9) hx hb hts inX7_ward_X7 hown hK hP 0 (eC_0 a cy I_57 A_57 T) rfl 5 (by decide) (hts _ mX7_ward_9) (fun _ h9 => h9) rfl dX7_ward_67 ?_
          refine lv_iload_n hx hb dX7_ward_70 rfl (lv_at hl 2 rfl) ?_
          refine lv_iconst (v := 0) hx hb dX7_ward_71 (by decide) ?_
          obtain ⟨i6, h⟩ := inb_some h
          refine g_zast (f := (A_57 11)) (j := x2.toNatClampNeg) hx hb hK hP hD hS 19 (eC_19 a cy I_57 A_57 T) i6 rfl dX7_ward_72 (sC_19 a cy I_57 A_57 T (upd (A_57 11) x2.toNatClampNeg (vp_nar .boolean 0))) (fun H locs hP hD hS => ?_)
          refine lv_iinc (v := (x2 + 1)) (lv' := [(2, .int (x2 + 1)), (0, .ref (a 0)), (1, .int x1)]) hx hb dX7_ward_73 hl (k := 2) rfl rfl (by decide) rfl (fun ls hl => ?_)
          refine lv_goto (tgt := 57) hx hb dX7_ward_76 (by decide) ?_
          exact ih57 _ _ h _ _ hP hD hS _ (lv_sub hl [1, 2, 0] rfl)
    refine lp57 _ _ _ ?_ N _ _ h _ _ hP hD hS _ (lv_sub hl [2, 1, 0] rfl)
    intro x2 A_57 h H locs hP hD hS ls hl
    refine lv_aload_n hx hb dX7_ward_79 rfl (lv_at hl 0 rfl) ?_
    refine va_get (D := (dC, dI)) (ci := 7) (v := .ref (a 1)) (C := RX7) (T := TX7) (N := 9) hx hb hts inX7_ward_X7 hown hK hP 0 (eC_0 a cy (upd (upd r4.1 17 0) 18 0) A_57 T) rfl 0 (by decide) (hts _ mX7_ward_0) (fun _ h9 => h9) rfl dX7_ward_80 ?_
    refine lv_iconst (v := 0) hx hb dX7_ward_83 (by decide) ?_
    refine g_put (D := (dC, dI)) (ci := 5) (v := .int 0) (ty := .int) (C := RX5) (T := TX5) (N := 8) hx hb hts inX7_ward_X5 tyX5 tyX5_ok nmX5 hown hK hP hD hS 1 (eC_1 a cy (upd (upd r4.1 17 0) 18 0) A_57 T) rfl 1 (by decide) (hts _ mX7_ward_8) (fun _ h9 => h9) rfl (by decide +kernel) rfl rfl (Nat.le_of_ble_eq_true rfl) dX7_ward_84 (pC_1_1 a cy (upd (upd r4.1 17 0) 18 0) A_57 T 0) (fun H locs hP hD hS => ?_)
    refine lv_iload_n hx hb dX7_ward_87 rfl (lv_at hl 1 rfl) ?_
    obtain rfl := Option.some.inj h
    exact g_iret hx hb hr hK hP hD hS hQ dX7_ward_88
  · replace h := ite_f h c2
    refine lv_iload_n hx hb dX7_ward_16 rfl (lv_at hl 0 rfl) ?_
    obtain rfl := Option.some.inj h
    exact g_iret hx hb hr hK hP hD hS hQ dX7_ward_17
theorem inX3_has_X3 : ∀ w ∈ u_ws RX3 TX3 6, w ∈ wsX3_has := by decide +kernel
theorem mX3_has_0 : Cond.fieldLink RX3 12 "WarmBottles$Night" "told" "LWarmBottles$Told;" ∈ wsX3_has := List.mem_of_getElem? (i := 1) rfl
theorem inX3_has_X6 : ∀ w ∈ u_ws RX6 TX6 6, w ∈ wsX3_has := by decide +kernel
theorem mX3_has_1 : Cond.fieldLink RX3 40 "WarmBottles$Told" "bottles" "I" ∈ wsX3_has := List.mem_of_getElem? (i := 2) rfl
def rm_X3_has_C : Room := { frames := 3, cells := 0, slots := 0, locals := 210 }
def f_X3_has_C (N : Nat) (I : Nat → Int32) (A : Nat → Nat → Int32) (p1 : Int32) : Option (Int32) := (if p1 < 0 then some 0 else (if (I 13) ≤ p1 then some 0 else some 1))
set_option maxHeartbeats 4000000 in
set_option maxRecDepth 100000 in
theorem c_X3_has_C (l : Launch) (dC : Nat → ClassId) (dI : Nat → Nat → Nat) (a : Nat → Nat) (cy : Nat → ClassId) (N : Nat) (I : Nat → Int32) (A : Nat → Nat → Int32) (T : Int64) (p1 : Int32) (res : Int32) (h : f_X3_has_C N I A p1 = some res) (sz : Nat) : Met l yX3_has wsX3_has rm_X3_has_C (g_Pre (dC, dI) cy [.ref (a 7), .int p1] (wC a cy I A T) sz) (g_Qi (dC, dI) cy res (wC a cy I A T) (wC a cy I A T) sz) 0 0 (va_A (wC a cy I A T) sz) := by
  unfold f_X3_has_C at h
  refine g_entry _ _ _ _ _ _ (cc := cX3_has) (maxL := 2) (ret := (some .boolean)) (by decide) rfl (Nat.le_of_ble_eq_true rfl) ?_
  intro p e s m args below meth c ls hx hb hml hown hts hr hlocks hA hK hP hD hS hl Q hQ
  have hl : lv_has ls 2 [(0, .ref (a 7)), (1, .int p1)] := hl
  have hown : s.vm.findClass RX3 = some m.cls := hown
  refine lv_iload_n hx hb dX3_has_0 rfl (lv_at hl 1 rfl) ?_
  refine lv_if_lt (tgt := 19) hx hb dX3_has_1 (by decide) (fun c1 => ?_) (fun c1 => ?_)
  · replace h := ite_t h c1
    refine lv_iconst (v := 0) hx hb dX3_has_19 (by decide) ?_
    obtain rfl := Option.some.inj h
    exact g_zret hx hb hr (by decide) hK hP hD hS hQ dX3_has_20
  · replace h := ite_f h c1
    refine lv_iload_n hx hb dX3_has_4 rfl (lv_at hl 1 rfl) ?_
    refine lv_aload_n hx hb dX3_has_5 rfl (lv_at hl 0 rfl) ?_
    refine va_get (D := (dC, dI)) (ci := 3) (v := .ref (a 8)) (C := RX3) (T := TX3) (N := 6) hx hb hts inX3_has_X3 hown hK hP 7 (eC_7 a cy I A T) rfl 0 (by decide) (hts _ mX3_has_0) (fun _ h9 => h9) rfl dX3_has_6 ?_
    refine va_get (D := (dC, dI)) (ci := 6) (v := .int (I 13)) (C := RX6) (T := TX6) (N := 6) hx hb hts inX3_has_X6 hown hK hP 8 (eC_8 a cy I A T) rfl 3 (by decide) (hts _ mX3_has_1) (fun _ h9 => h9) rfl dX3_has_9 ?_
    refine lv_icmp_ge (tgt := 19) hx hb dX3_has_12 (by decide) (fun c2 => ?_) (fun c2 => ?_)
    · replace h := ite_t h c2
      refine lv_iconst (v := 0) hx hb dX3_has_19 (by decide) ?_
      obtain rfl := Option.some.inj h
      exact g_zret hx hb hr (by decide) hK hP hD hS hQ dX3_has_20
    · replace h := ite_f h c2
      refine lv_iconst (v := 1) hx hb dX3_has_15 (by decide) ?_
      refine lv_goto (tgt := 20) hx hb dX3_has_16 (by decide) ?_
      obtain rfl := Option.some.inj h
      exact g_zret hx hb hr (by decide) hK hP hD hS hQ dX3_has_20
theorem inX3_loss_X3 : ∀ w ∈ u_ws RX3 TX3 6, w ∈ wsX3_loss := by decide +kernel
theorem mX3_loss_0 : Cond.fieldLink RX3 12 "WarmBottles$Night" "told" "LWarmBottles$Told;" ∈ wsX3_loss := List.mem_of_getElem? (i := 1) rfl
theorem inX3_loss_X6 : ∀ w ∈ u_ws RX6 TX6 6, w ∈ wsX3_loss := by decide +kernel
theorem mX3_loss_1 : Cond.fieldLink RX3 59 "WarmBottles$Told" "cools" "[I" ∈ wsX3_loss := List.mem_of_getElem? (i := 2) rfl
theorem mX3_loss_2 : Cond.methodLink RX3 47 Lib.Math.max.name ∈ wsX3_loss := List.mem_of_getElem? (i := 4) rfl
theorem mX3_loss_3 : Cond.static Lib.Math.max.name ∈ wsX3_loss := List.mem_of_getElem? (i := 5) rfl
theorem mX3_loss_4 : Cond.initialized "java/lang/Math" ∈ wsX3_loss := List.mem_of_getElem? (i := 6) rfl
theorem mX3_loss_5 : Cond.code Lib.Math.max.name Lib.Math.max.code 2 (some .int) ∈ wsX3_loss := List.mem_of_getElem? (i := 7) rfl
theorem mX3_loss_6 : Cond.fieldLink RX3 40 "WarmBottles$Told" "bottles" "I" ∈ wsX3_loss := List.mem_of_getElem? (i := 3) rfl
def rm_X3_loss_C : Room := { frames := 3, cells := 0, slots := 0, locals := 210 }
def f_X3_loss_C_L16 (N : Nat) (k_16 : Int32 → Int32 → Option (Int32)) (x1 : Int32) (I : (Nat → Int32)) (A : (Nat → Nat → Int32)) : Nat → Int32 → Int32 → Option (Int32)
  | 0, _, _ => none
  | n_16 + 1, x4, x5 => (if (I 13) ≤ x5 then (k_16 x4 x5) else (if x5 = x1 then (f_X3_loss_C_L16 N k_16 x1 I A n_16 x4 (x5 + 1)) else (if x5 < 0 ∨ 6 ≤ x5.toNatClampNeg then none else (if x1 < 0 ∨ 6 ≤ x1.toNatClampNeg then none else (if ((A 8) x5.toNatClampNeg) = ((A 8) x1.toNatClampNeg) then (f_X3_loss_C_L16 N k_16 x1 I A n_16 (x4 + (-2)) (x5 + 1)) else (f_X3_loss_C_L16 N k_16 x1 I A n_16 x4 (x5 + 1)))))))
def f_X3_loss_C (N : Nat) (I : Nat → Int32) (A : Nat → Nat → Int32) (p1 : Int32) (p3 : Int32) : Option (Int32) := (if p1 < 0 ∨ 6 ≤ p1.toNatClampNeg then none else (f_X3_loss_C_L16 N (fun (x4 : Int32) (x5 : Int32) => some (iMax 1 x4)) p1 I A N (((A 5) p1.toNatClampNeg) + p3) 0))
set_option maxHeartbeats 4000000 in
set_option maxRecDepth 100000 in
theorem c_X3_loss_C (l : Launch) (dC : Nat → ClassId) (dI : Nat → Nat → Nat) (a : Nat → Nat) (cy : Nat → ClassId) (N : Nat) (I : Nat → Int32) (A : Nat → Nat → Int32) (T : Int64) (p1 : Int32) (p3 : Int32) (res : Int32) (h : f_X3_loss_C N I A p1 p3 = some res) (sz : Nat) : Met l yX3_loss wsX3_loss rm_X3_loss_C (g_Pre (dC, dI) cy [.ref (a 7), .int p1, .ref (a 13), .int p3] (wC a cy I A T) sz) (g_Qi (dC, dI) cy res (wC a cy I A T) (wC a cy I A T) sz) 0 0 (va_A (wC a cy I A T) sz) := by
  unfold f_X3_loss_C at h
  refine g_entry _ _ _ _ _ _ (cc := cX3_loss) (maxL := 6) (ret := (some .int)) (by decide) rfl (Nat.le_of_ble_eq_true rfl) ?_
  intro p e s m args below meth c ls hx hb hml hown hts hr hlocks hA hK hP hD hS hl Q hQ
  have hl : lv_has ls 6 [(0, .ref (a 7)), (1, .int p1), (2, .ref (a 13)), (3, .int p3)] := hl
  have hown : s.vm.findClass RX3 = some m.cls := hown
  refine lv_aload_n hx hb dX3_loss_0 rfl (lv_at hl 0 rfl) ?_
  refine va_get (D := (dC, dI)) (ci := 3) (v := .ref (a 8)) (C := RX3) (T := TX3) (N := 6) hx hb hts inX3_loss_X3 hown hK hP 7 (eC_7 a cy I A T) rfl 0 (by decide) (hts _ mX3_loss_0) (fun _ h9 => h9) rfl dX3_loss_1 ?_
  refine va_get (D := (dC, dI)) (ci := 6) (v := .ref (a 10)) (C := RX6) (T := TX6) (N := 6) hx hb hts inX3_loss_X6 hown hK hP 8 (eC_8 a cy I A T) rfl 1 (by decide) (hts _ mX3_loss_1) (fun _ h9 => h9) rfl dX3_loss_4 ?_
  refine lv_iload_n hx hb dX3_loss_7 rfl (lv_at hl 1 rfl) ?_
  obtain ⟨i1, h⟩ := inb_some h
  refine g_iald (f := (A 5)) (j := p1.toNatClampNeg) hx hb hK hP 10 (eC_10 a cy I A T) i1 rfl dX3_loss_8 ?_
  refine lv_iload_n hx hb dX3_loss_9 rfl (lv_at hl 3 rfl) ?_
  refine lv_iadd hx hb dX3_loss_10 ?_
  refine lv_istore (lv' := [(4, .int (((A 5) p1.toNatClampNeg) + p3)), (0, .ref (a 7)), (1, .int p1), (2, .ref (a 13)), (3, .int p3)]) hx hb dX3_loss_11 hl (by decide) rfl (fun ls hl => ?_)
  refine lv_iconst (v := 0) hx hb dX3_loss_13 (by decide) ?_
  refine lv_istore (lv' := [(5, .int 0), (4, .int (((A 5) p1.toNatClampNeg) + p3)), (0, .ref (a 7)), (1, .int p1), (2, .ref (a 13)), (3, .int p3)]) hx hb dX3_loss_14 hl (by decide) rfl (fun ls hl => ?_)
  have lp16 : ∀ (x1 : Int32) (k_16 : Int32 → Int32 → Option (Int32)), (∀ (x4 : Int32) (x5 : Int32), k_16 x4 x5 = some res → g_At (dC, dI) p l e (headSpec wsX3_loss rm_X3_loss_C).room s m args below meth c Q (wC a cy I A T) sz 6 (wC a cy I A T) [(4, .int x4)] 53 []) → ∀ (n_16 : Nat) (x4 : Int32) (x5 : Int32), f_X3_loss_C_L16 N k_16 x1 I A n_16 x4 x5 = some res → g_At (dC, dI) p l e (headSpec wsX3_loss rm_X3_loss_C).room s m args below meth c Q (wC a cy I A T) sz 6 (wC a cy I A T) [(0, .ref (a 7)), (1, .int x1), (2, .ref (a 13)), (4, .int x4), (5, .int x5)] 16 [] := by
    intro x1 k_16 hk_16 n_16
    induction n_16 with
    | zero =>
      intro x4 x5 h
      exact absurd h (by rw [f_X3_loss_C_L16]; exact fun q => by cases q)
    | succ n_16 ih16 =>
      intro x4 x5 h H locs hP hD hS ls hl
      rw [f_X3_loss_C_L16] at h
      refine lv_iload hx hb dX3_loss_16 (lv_at hl 4 rfl) ?_
      refine lv_aload_n hx hb dX3_loss_18 rfl (lv_at hl 0 rfl) ?_
      refine va_get (D := (dC, dI)) (ci := 3) (v := .ref (a 8)) (C := RX3) (T := TX3) (N := 6) hx hb hts inX3_loss_X3 hown hK hP 7 (eC_7 a cy I A T) rfl 0 (by decide) (hts _ mX3_loss_0) (fun _ h9 => h9) rfl dX3_loss_19 ?_
      refine va_get (D := (dC, dI)) (ci := 6) (v := .int (I 13)) (C := RX6) (T := TX6) (N := 6) hx hb hts inX3_loss_X6 hown hK hP 8 (eC_8 a cy I A T) rfl 3 (by decide) (hts _ mX3_loss_6) (fun _ h9 => h9) rfl dX3_loss_22 ?_
      refine lv_icmp_ge (tgt := 53) hx hb dX3_loss_25 (by decide) (fun c2 => ?_) (fun c2 => ?_)
      · replace h := ite_t h c2
        exact hk_16 _ _ h _ _ hP hD hS _ (lv_sub hl [3] rfl)
      · replace h := ite_f h c2
        refine lv_iload hx hb dX3_loss_28 (lv_at hl 4 rfl) ?_
        refine lv_iload_n hx hb dX3_loss_30 rfl (lv_at hl 1 rfl) ?_
        refine lv_icmp_eq (tgt := 47) hx hb dX3_loss_31 (by decide) (fun c3 => ?_) (fun c3 => ?_)
        · replace h := ite_t h c3
          refine lv_iinc (v := (x5 + 1)) (lv' := [(5, .int (x5 + 1)), (0, .ref (a 7)), (1, .int x1), (2, .ref (a 13)), (4, .int x4)]) hx hb dX3_loss_47 hl (k := 4) rfl rfl (by decide) rfl (fun ls hl => ?_)
          refine lv_goto (tgt := 16) hx hb dX3_loss_50 (by decide) ?_
          exact ih16 _ _ h _ _ hP hD hS _ (lv_sub hl [1, 2, 3, 4, 0] rfl)
        · replace h := ite_f h c3
          refine lv_aload_n hx hb dX3_loss_34 rfl (lv_at hl 2 rfl) ?_
          refine lv_iload hx hb dX3_loss_35 (lv_at hl 4 rfl) ?_
          obtain ⟨i4, h⟩ := inb_some h
          refine g_iald (f := (A 8)) (j := x5.toNatClampNeg) hx hb hK hP 13 (eC_13 a cy I A T) i4 rfl dX3_loss_37 ?_
          refine lv_aload_n hx hb dX3_loss_38 rfl (lv_at hl 2 rfl) ?_
          refine lv_iload_n hx hb dX3_loss_39 rfl (lv_at hl 1 rfl) ?_
          obtain ⟨i5, h⟩ := inb_some h
          refine g_iald (f := (A 8)) (j := x1.toNatClampNeg) hx hb hK hP 13 (eC_13 a cy I A T) i5 rfl dX3_loss_40 ?_
          refine lv_icmp_ne (tgt := 47) hx hb dX3_loss_41 (by decide) (fun c6 => ?_) (fun c6 => ?_)
          · replace h := ite_f h c6
            refine lv_iinc (v := (x5 + 1)) (lv' := [(5, .int (x5 + 1)), (0, .ref (a 7)), (1, .int x1), (2, .ref (a 13)), (4, .int x4)]) hx hb dX3_loss_47 hl (k := 4) rfl rfl (by decide) rfl (fun ls hl => ?_)
            refine lv_goto (tgt := 16) hx hb dX3_loss_50 (by decide) ?_
            exact ih16 _ _ h _ _ hP hD hS _ (lv_sub hl [1, 2, 3, 4, 0] rfl)
          · replace h := ite_t h c6
            refine lv_iinc (v := (x4 + (-2))) (lv' := [(4, .int (x4 + (-2))), (0, .ref (a 7)), (1, .int x1), (2, .ref (a 13)), (5, .int x5)]) hx hb dX3_loss_44 hl (k := 3) rfl rfl (by decide) rfl (fun ls hl => ?_)
            refine lv_iinc (v := (x5 + 1)) (lv' := [(5, .int (x5 + 1)), (4, .int (x4 + (-2))), (0, .ref (a 7)), (1, .int x1), (2, .ref (a 13))]) hx hb dX3_loss_47 hl (k := 4) rfl rfl (by decide) rfl (fun ls hl => ?_)
            refine lv_goto (tgt := 16) hx hb dX3_loss_50 (by decide) ?_
            exact ih16 _ _ h _ _ hP hD hS _ (lv_sub hl [2, 3, 4, 1, 0] rfl)
  refine lp16 _ _ ?_ N _ _ h _ _ hP hD hS _ (lv_sub hl [2, 3, 4, 1, 0] rfl)
  intro x4 x5 h H locs hP hD hS ls hl
  refine lv_iconst (v := 1) hx hb dX3_loss_53 (by decide) ?_
  refine lv_iload hx hb dX3_loss_54 (lv_at hl 0 rfl) ?_
  refine g_mmax hx hb (hml.trans hl.1.symm) hown (hts _ mX3_loss_2) (hts _ mX3_loss_3) (hts _ mX3_loss_4) (hts _ mX3_loss_5) (Nat.le_of_ble_eq_true rfl) (Nat.le_of_ble_eq_true rfl) (Nat.zero_le _) (Nat.zero_le _) dX3_loss_56 ?_
  obtain rfl := Option.some.inj h
  exact g_iret hx hb hr hK hP hD hS hQ dX3_loss_59
theorem inX3_soundIn_X3 : ∀ w ∈ u_ws RX3 TX3 6, w ∈ wsX3_soundIn := by decide +kernel
theorem mX3_soundIn_0 : Cond.fieldLink RX3 18 "WarmBottles$Night" "warm" "[I" ∈ wsX3_soundIn := List.mem_of_getElem? (i := 1) rfl
theorem mX3_soundIn_1 : Cond.fieldLink RX3 22 "WarmBottles$Night" "bed" "[I" ∈ wsX3_soundIn := List.mem_of_getElem? (i := 2) rfl
theorem mX3_soundIn_2 : Cond.fieldLink RX3 32 "WarmBottles$Night" "frost" "I" ∈ wsX3_soundIn := List.mem_of_getElem? (i := 3) rfl
theorem mX3_soundIn_3 : Cond.fieldLink RX3 12 "WarmBottles$Night" "told" "LWarmBottles$Told;" ∈ wsX3_soundIn := List.mem_of_getElem? (i := 4) rfl
theorem inX3_soundIn_X6 : ∀ w ∈ u_ws RX6 TX6 6, w ∈ wsX3_soundIn := by decide +kernel
theorem mX3_soundIn_4 : Cond.fieldLink RX3 66 "WarmBottles$Told" "speaks" "[I" ∈ wsX3_soundIn := List.mem_of_getElem? (i := 5) rfl
def rm_X3_soundIn_C : Room := { frames := 5, cells := 0, slots := 0, locals := 270 }
def f_X3_soundIn_C (N : Nat) (I : Nat → Int32) (A : Nat → Nat → Int32) (p1 : Int32) (p2 : Int32) : Option (Int32) := (if p1 < 0 ∨ 6 ≤ p1.toNatClampNeg then none else (Option.bind (f_X3_loss_C N I A p1 (I 11)) (fun r2 => (if 0 < (((A 7) p1.toNatClampNeg) - (p2 * r2)) then (if (((A 7) p1.toNatClampNeg) - (p2 * r2)) < ((A 6) p1.toNatClampNeg) then some 1 else some 2) else some 0))))
set_option maxHeartbeats 4000000 in
set_option maxRecDepth 100000 in
theorem c_X3_soundIn_C (l : Launch) (dC : Nat → ClassId) (dI : Nat → Nat → Nat) (a : Nat → Nat) (cy : Nat → ClassId) (N : Nat) (I : Nat → Int32) (A : Nat → Nat → Int32) (T : Int64) (p1 : Int32) (p2 : Int32) (res : Int32) (h : f_X3_soundIn_C N I A p1 p2 = some res) (sz : Nat) : Met l yX3_soundIn wsX3_soundIn rm_X3_soundIn_C (g_Pre (dC, dI) cy [.ref (a 7), .int p1, .int p2] (wC a cy I A T) sz) (g_Qi (dC, dI) cy res (wC a cy I A T) (wC a cy I A T) sz) 0 0 (va_A (wC a cy I A T) sz) := by
  unfold f_X3_soundIn_C at h
  refine g_entry _ _ _ _ _ _ (cc := cX3_soundIn) (maxL := 4) (ret := (some .int)) (by decide) rfl (Nat.le_of_ble_eq_true rfl) ?_
  intro p e s m args below meth c ls hx hb hml hown hts hr hlocks hA hK hP hD hS hl Q hQ
  have hl : lv_has ls 4 [(0, .ref (a 7)), (1, .int p1), (2, .int p2)] := hl
  have hown : s.vm.findClass RX3 = some m.cls := hown
  refine lv_aload_n hx hb dX3_soundIn_0 rfl (lv_at hl 0 rfl) ?_
  refine va_get (D := (dC, dI)) (ci := 3) (v := .ref (a 12)) (C := RX3) (T := TX3) (N := 6) hx hb hts inX3_soundIn_X3 hown hK hP 7 (eC_7 a cy I A T) rfl 1 (by decide) (hts _ mX3_soundIn_0) (fun _ h9 => h9) rfl dX3_soundIn_1 ?_
  refine lv_iload_n hx hb dX3_soundIn_4 rfl (lv_at hl 1 rfl) ?_
  obtain ⟨i1, h⟩ := inb_some h
  refine g_iald (f := (A 7)) (j := p1.toNatClampNeg) hx hb hK hP 12 (eC_12 a cy I A T) i1 rfl dX3_soundIn_5 ?_
  refine lv_iload_n hx hb dX3_soundIn_6 rfl (lv_at hl 2 rfl) ?_
  refine lv_aload_n hx hb dX3_soundIn_7 rfl (lv_at hl 0 rfl) ?_
  refine lv_iload_n hx hb dX3_soundIn_8 rfl (lv_at hl 1 rfl) ?_
  refine lv_aload_n hx hb dX3_soundIn_9 rfl (lv_at hl 0 rfl) ?_
  refine va_get (D := (dC, dI)) (ci := 3) (v := .ref (a 13)) (C := RX3) (T := TX3) (N := 6) hx hb hts inX3_soundIn_X3 hown hK hP 7 (eC_7 a cy I A T) rfl 2 (by decide) (hts _ mX3_soundIn_1) (fun _ h9 => h9) rfl dX3_soundIn_10 ?_
  refine lv_aload_n hx hb dX3_soundIn_13 rfl (lv_at hl 0 rfl) ?_
  refine va_get (D := (dC, dI)) (ci := 3) (v := .int (I 11)) (C := RX3) (T := TX3) (N := 6) hx hb hts inX3_soundIn_X3 hown hK hP 7 (eC_7 a cy I A T) rfl 4 (by decide) (hts _ mX3_soundIn_2) (fun _ h9 => h9) rfl dX3_soundIn_14 ?_
  obtain ⟨r2, hr2, h⟩ := bnd_some h
  refine g_callVi (As := [.int p1, .ref (a 13), .int (I 11)]) (rest := [.int p2, .int ((A 7) p1.toNatClampNeg)]) (ci := 3) (q0 := 7) hx hb hml hown hts (c_X3_loss_C l dC dI a cy N I A T p1 (I 11) r2 hr2) (cwV 3 hts gX3_soundIn_X3_loss rfl rfl rfl (by decide +kernel) ⟨Nat.le_of_ble_eq_true rfl, Nat.le_of_ble_eq_true rfl⟩) hK hP hD hS hA rfl (eC_7 a cy I A T) rfl rfl hl.1 rfl (Nat.le_of_ble_eq_true rfl) dX3_soundIn_17 (fun H locs hP hD hS => ?_)
  refine lv_imul hx hb dX3_soundIn_20 ?_
  refine lv_isub hx hb dX3_soundIn_21 ?_
  refine lv_istore_n (lv' := [(3, .int (((A 7) p1.toNatClampNeg) - (p2 * r2))), (0, .ref (a 7)), (1, .int p1), (2, .int p2)]) hx hb dX3_soundIn_22 rfl hl (by decide) rfl (fun ls hl => ?_)
  refine lv_iload_n hx hb dX3_soundIn_23 rfl (lv_at hl 0 rfl) ?_
  refine lv_if_gt (tgt := 29) hx hb dX3_soundIn_24 (by decide) (fun c3 => ?_) (fun c3 => ?_)
  · replace h := ite_t h c3
    refine lv_iload_n hx hb dX3_soundIn_29 rfl (lv_at hl 0 rfl) ?_
    refine lv_aload_n hx hb dX3_soundIn_30 rfl (lv_at hl 1 rfl) ?_
    refine va_get (D := (dC, dI)) (ci := 3) (v := .ref (a 8)) (C := RX3) (T := TX3) (N := 6) hx hb hts inX3_soundIn_X3 hown hK hP 7 (eC_7 a cy I A T) rfl 0 (by decide) (hts _ mX3_soundIn_3) (fun _ h9 => h9) rfl dX3_soundIn_31 ?_
    refine va_get (D := (dC, dI)) (ci := 6) (v := .ref (a 11)) (C := RX6) (T := TX6) (N := 6) hx hb hts inX3_soundIn_X6 hown hK hP 8 (eC_8 a cy I A T) rfl 2 (by decide) (hts _ mX3_soundIn_4) (fun _ h9 => h9) rfl dX3_soundIn_34 ?_
    refine lv_iload_n hx hb dX3_soundIn_37 rfl (lv_at hl 2 rfl) ?_
    refine g_iald (f := (A 6)) (j := p1.toNatClampNeg) hx hb hK hP 11 (eC_11 a cy I A T) i1 rfl dX3_soundIn_38 ?_
    refine lv_icmp_lt (tgt := 46) hx hb dX3_soundIn_39 (by decide) (fun c4 => ?_) (fun c4 => ?_)
    · replace h := ite_t h c4
      refine lv_iconst (v := 1) hx hb dX3_soundIn_46 (by decide) ?_
      obtain rfl := Option.some.inj h
      exact g_iret hx hb hr hK hP hD hS hQ dX3_soundIn_47
    · replace h := ite_f h c4
      refine lv_iconst (v := 2) hx hb dX3_soundIn_42 (by decide) ?_
      refine lv_goto (tgt := 47) hx hb dX3_soundIn_43 (by decide) ?_
      obtain rfl := Option.some.inj h
      exact g_iret hx hb hr hK hP hD hS hQ dX3_soundIn_47
  · replace h := ite_f h c3
    refine lv_iconst (v := 0) hx hb dX3_soundIn_27 (by decide) ?_
    obtain rfl := Option.some.inj h
    exact g_iret hx hb hr hK hP hD hS hQ dX3_soundIn_28
theorem inX3_lasts_X3 : ∀ w ∈ u_ws RX3 TX3 6, w ∈ wsX3_lasts := by decide +kernel
theorem mX3_lasts_0 : Cond.fieldLink RX3 32 "WarmBottles$Night" "frost" "I" ∈ wsX3_lasts := List.mem_of_getElem? (i := 1) rfl
theorem mX3_lasts_1 : Cond.fieldLink RX3 18 "WarmBottles$Night" "warm" "[I" ∈ wsX3_lasts := List.mem_of_getElem? (i := 2) rfl
def rm_X3_lasts_C : Room := { frames := 5, cells := 0, slots := 0, locals := 270 }
def f_X3_lasts_C (N : Nat) (I : Nat → Int32) (A : Nat → Nat → Int32) (p1 : Int32) : Option (Int32) := (Option.bind (f_X3_loss_C N I A p1 (I 11)) (fun r1 => (if r1 ≤ 0 then some 99 else (if p1 < 0 ∨ 6 ≤ p1.toNatClampNeg then none else (if r1 = 0 then none else some (((((A 7) p1.toNatClampNeg) + r1) - 1) / r1))))))
set_option maxHeartbeats 4000000 in
set_option maxRecDepth 100000 in
theorem c_X3_lasts_C (l : Launch) (dC : Nat → ClassId) (dI : Nat → Nat → Nat) (a : Nat → Nat) (cy : Nat → ClassId) (N : Nat) (I : Nat → Int32) (A : Nat → Nat → Int32) (T : Int64) (p1 : Int32) (res : Int32) (h : f_X3_lasts_C N I A p1 = some res) (sz : Nat) : Met l yX3_lasts wsX3_lasts rm_X3_lasts_C (g_Pre (dC, dI) cy [.ref (a 7), .int p1, .ref (a 13)] (wC a cy I A T) sz) (g_Qi (dC, dI) cy res (wC a cy I A T) (wC a cy I A T) sz) 0 0 (va_A (wC a cy I A T) sz) := by
  unfold f_X3_lasts_C at h
  refine g_entry _ _ _ _ _ _ (cc := cX3_lasts) (maxL := 4) (ret := (some .int)) (by decide) rfl (Nat.le_of_ble_eq_true rfl) ?_
  intro p e s m args below meth c ls hx hb hml hown hts hr hlocks hA hK hP hD hS hl Q hQ
  have hl : lv_has ls 4 [(0, .ref (a 7)), (1, .int p1), (2, .ref (a 13))] := hl
  have hown : s.vm.findClass RX3 = some m.cls := hown
  refine lv_aload_n hx hb dX3_lasts_0 rfl (lv_at hl 0 rfl) ?_
  refine lv_iload_n hx hb dX3_lasts_1 rfl (lv_at hl 1 rfl) ?_
  refine lv_aload_n hx hb dX3_lasts_2 rfl (lv_at hl 2 rfl) ?_
  refine lv_aload_n hx hb dX3_lasts_3 rfl (lv_at hl 0 rfl) ?_
  refine va_get (D := (dC, dI)) (ci := 3) (v := .int (I 11)) (C := RX3) (T := TX3) (N := 6) hx hb hts inX3_lasts_X3 hown hK hP 7 (eC_7 a cy I A T) rfl 4 (by decide) (hts _ mX3_lasts_0) (fun _ h9 => h9) rfl dX3_lasts_4 ?_
  obtain ⟨r1, hr1, h⟩ := bnd_some h
  refine g_callVi (As := [.int p1, .ref (a 13), .int (I 11)]) (rest := []) (ci := 3) (q0 := 7) hx hb hml hown hts (c_X3_loss_C l dC dI a cy N I A T p1 (I 11) r1 hr1) (cwV 3 hts gX3_lasts_X3_loss rfl rfl rfl (by decide +kernel) ⟨Nat.le_of_ble_eq_true rfl, Nat.le_of_ble_eq_true rfl⟩) hK hP hD hS hA rfl (eC_7 a cy I A T) rfl rfl hl.1 rfl (Nat.le_of_ble_eq_true rfl) dX3_lasts_7 (fun H locs hP hD hS => ?_)
  refine lv_istore_n (lv' := [(3, .int r1), (0, .ref (a 7)), (1, .int p1), (2, .ref (a 13))]) hx hb dX3_lasts_10 rfl hl (by decide) rfl (fun ls hl => ?_)
  refine lv_iload_n hx hb dX3_lasts_11 rfl (lv_at hl 0 rfl) ?_
  refine lv_if_le (tgt := 30) hx hb dX3_lasts_12 (by decide) (fun c2 => ?_) (fun c2 => ?_)
  · replace h := ite_t h c2
    refine lv_bipush (v := 99) hx hb dX3_lasts_30 (by decide) ?_
    obtain rfl := Option.some.inj h
    exact g_iret hx hb hr hK hP hD hS hQ dX3_lasts_32
  · replace h := ite_f h c2
    refine lv_aload_n hx hb dX3_lasts_15 rfl (lv_at hl 1 rfl) ?_
    refine va_get (D := (dC, dI)) (ci := 3) (v := .ref (a 12)) (C := RX3) (T := TX3) (N := 6) hx hb hts inX3_lasts_X3 hown hK hP 7 (eC_7 a cy I A T) rfl 1 (by decide) (hts _ mX3_lasts_1) (fun _ h9 => h9) rfl dX3_lasts_16 ?_
    refine lv_iload_n hx hb dX3_lasts_19 rfl (lv_at hl 2 rfl) ?_
    obtain ⟨i3, h⟩ := inb_some h
    refine g_iald (f := (A 7)) (j := p1.toNatClampNeg) hx hb hK hP 12 (eC_12 a cy I A T) i3 rfl dX3_lasts_20 ?_
    refine lv_iload_n hx hb dX3_lasts_21 rfl (lv_at hl 0 rfl) ?_
    refine lv_iadd hx hb dX3_lasts_22 ?_
    refine lv_iconst (v := 1) hx hb dX3_lasts_23 (by decide) ?_
    refine lv_isub hx hb dX3_lasts_24 ?_
    refine lv_iload_n hx hb dX3_lasts_25 rfl (lv_at hl 0 rfl) ?_
    obtain ⟨z4, h⟩ := nz_some h
    refine lv_idiv hx hb dX3_lasts_26 z4 ?_
    refine lv_goto (tgt := 32) hx hb dX3_lasts_27 (by decide) ?_
    obtain rfl := Option.some.inj h
    exact g_iret hx hb hr hK hP hD hS hQ dX3_lasts_32
theorem inX7_bottle_X7 : ∀ w ∈ u_ws RX7 TX7 9, w ∈ wsX7_bottle := by decide +kernel
theorem mX7_bottle_0 : Cond.fieldLink RX7 26 "WarmBottles" "night" "LWarmBottles$Night;" ∈ wsX7_bottle := List.mem_of_getElem? (i := 1) rfl
theorem inX7_bottle_X3 : ∀ w ∈ u_ws RX3 TX3 6, w ∈ wsX7_bottle := by decide +kernel
theorem mX7_bottle_1 : Cond.fieldLink RX7 96 "WarmBottles$Night" "warm" "[I" ∈ wsX7_bottle := List.mem_of_getElem? (i := 2) rfl
theorem mX7_bottle_2 : Cond.fieldLink RX7 76 "WarmBottles$Night" "told" "LWarmBottles$Told;" ∈ wsX7_bottle := List.mem_of_getElem? (i := 3) rfl
theorem inX7_bottle_X6 : ∀ w ∈ u_ws RX6 TX6 6, w ∈ wsX7_bottle := by decide +kernel
theorem mX7_bottle_3 : Cond.fieldLink RX7 100 "WarmBottles$Told" "cools" "[I" ∈ wsX7_bottle := List.mem_of_getElem? (i := 4) rfl
theorem mX7_bottle_4 : Cond.fieldLink RX7 103 "WarmBottles$Told" "speaks" "[I" ∈ wsX7_bottle := List.mem_of_getElem? (i := 5) rfl
theorem mX7_bottle_5 : Cond.fieldLink RX7 106 "WarmBottles$Night" "bed" "[I" ∈ wsX7_bottle := List.mem_of_getElem? (i := 6) rfl
def rm_X7_bottle_C : Room := { frames := 7, cells := 0, slots := 0, locals := 330 }
def f_X7_bottle_C (N : Nat) (I : Nat → Int32) (A : Nat → Nat → Int32) (p1 : Int32) (p2 : Int32) : Option (Int32) := (Option.bind (f_X3_has_C N I A p1) (fun r1 => (if r1 = 0 then some (-1) else (if p2 = 0 then (if p1 < 0 ∨ 6 ≤ p1.toNatClampNeg then none else some ((A 7) p1.toNatClampNeg)) else (if p2 = 1 then (if p1 < 0 ∨ 6 ≤ p1.toNatClampNeg then none else some ((A 5) p1.toNatClampNeg)) else (if p2 = 2 then (if p1 < 0 ∨ 6 ≤ p1.toNatClampNeg then none else some ((A 6) p1.toNatClampNeg)) else (if p2 = 3 then (if p1 < 0 ∨ 6 ≤ p1.toNatClampNeg then none else some ((A 8) p1.toNatClampNeg)) else (if p2 = 4 then (Option.bind (f_X3_soundIn_C N I A p1 0) (fun r12 => some r12)) else (if p2 = 5 then (Option.bind (f_X3_lasts_C N I A p1) (fun r14 => some r14)) else some (-1))))))))))
set_option maxHeartbeats 4000000 in
set_option maxRecDepth 100000 in
theorem c_X7_bottle_C (l : Launch) (dC : Nat → ClassId) (dI : Nat → Nat → Nat) (a : Nat → Nat) (cy : Nat → ClassId) (N : Nat) (I : Nat → Int32) (A : Nat → Nat → Int32) (T : Int64) (p1 : Int32) (p2 : Int32) (res : Int32) (h : f_X7_bottle_C N I A p1 p2 = some res) (sz : Nat) : Met l yX7_bottle wsX7_bottle rm_X7_bottle_C (g_Pre (dC, dI) cy [.ref (a 0), .int p1, .int p2] (wC a cy I A T) sz) (g_Qi (dC, dI) cy res (wC a cy I A T) (wC a cy I A T) sz) 0 0 (va_A (wC a cy I A T) sz) := by
  unfold f_X7_bottle_C at h
  refine g_entry _ _ _ _ _ _ (cc := cX7_bottle) (maxL := 3) (ret := (some .int)) (by decide) rfl (Nat.le_of_ble_eq_true rfl) ?_
  intro p e s m args below meth c ls hx hb hml hown hts hr hlocks hA hK hP hD hS hl Q hQ
  have hl : lv_has ls 3 [(0, .ref (a 0)), (1, .int p1), (2, .int p2)] := hl
  have hown : s.vm.findClass RX7 = some m.cls := hown
  refine lv_aload_n hx hb dX7_bottle_0 rfl (lv_at hl 0 rfl) ?_
  refine va_get (D := (dC, dI)) (ci := 7) (v := .ref (a 7)) (C := RX7) (T := TX7) (N := 9) hx hb hts inX7_bottle_X7 hown hK hP 0 (eC_0 a cy I A T) rfl 2 (by decide) (hts _ mX7_bottle_0) (fun _ h9 => h9) rfl dX7_bottle_1 ?_
  refine lv_iload_n hx hb dX7_bottle_4 rfl (lv_at hl 1 rfl) ?_
  obtain ⟨r1, hr1, h⟩ := bnd_some h
  refine g_callVi (As := [.int p1]) (rest := []) (ci := 3) (q0 := 7) hx hb hml hown hts (c_X3_has_C l dC dI a cy N I A T p1 r1 hr1) (cwV 1 hts gX7_bottle_X3_has rfl rfl rfl (by decide +kernel) ⟨Nat.le_of_ble_eq_true rfl, Nat.le_of_ble_eq_true rfl⟩) hK hP hD hS hA rfl (eC_7 a cy I A T) rfl rfl hl.1 rfl (Nat.le_of_ble_eq_true rfl) dX7_bottle_5 (fun H locs hP hD hS => ?_)
  refine lv_if_ne (tgt := 13) hx hb dX7_bottle_8 (by decide) (fun c2 => ?_) (fun c2 => ?_)
  · replace h := ite_f h c2
    refine lv_iload_n hx hb dX7_bottle_13 rfl (lv_at hl 2 rfl) ?_
    rcases Decidable.em (p2 = 0) with c3 | c3
    · replace h := ite_t h c3
      refine lv_tableIn (off := 38) (tgt := 52) hx hb dX7_bottle_14 (by rw [c3]; decide) (by rw [c3]; decide) (by rw [c3]; rfl) (by decide) ?_
      refine lv_aload_n hx hb dX7_bottle_52 rfl (lv_at hl 0 rfl) ?_
      refine va_get (D := (dC, dI)) (ci := 7) (v := .ref (a 7)) (C := RX7) (T := TX7) (N := 9) hx hb hts inX7_bottle_X7 hown hK hP 0 (eC_0 a cy I A T) rfl 2 (by decide) (hts _ mX7_bottle_0) (fun _ h9 => h9) rfl dX7_bottle_53 ?_
      refine va_get (D := (dC, dI)) (ci := 3) (v := .ref (a 12)) (C := RX3) (T := TX3) (N := 6) hx hb hts inX7_bottle_X3 hown hK hP 7 (eC_7 a cy I A T) rfl 1 (by decide) (hts _ mX7_bottle_1) (fun _ h9 => h9) rfl dX7_bottle_56 ?_
      refine lv_iload_n hx hb dX7_bottle_59 rfl (lv_at hl 1 rfl) ?_
      obtain ⟨i4, h⟩ := inb_some h
      refine g_iald (f := (A 7)) (j := p1.toNatClampNeg) hx hb hK hP 12 (eC_12 a cy I A T) i4 rfl dX7_bottle_60 ?_
      obtain rfl := Option.some.inj h
      exact g_iret hx hb hr hK hP hD hS hQ dX7_bottle_61
    · replace h := ite_f h c3
      rcases Decidable.em (p2 = 1) with c5 | c5
      · replace h := ite_t h c5
        refine lv_tableIn (off := 48) (tgt := 62) hx hb dX7_bottle_14 (by rw [c5]; decide) (by rw [c5]; decide) (by rw [c5]; rfl) (by decide) ?_
        refine lv_aload_n hx hb dX7_bottle_62 rfl (lv_at hl 0 rfl) ?_
        refine va_get (D := (dC, dI)) (ci := 7) (v := .ref (a 7)) (C := RX7) (T := TX7) (N := 9) hx hb hts inX7_bottle_X7 hown hK hP 0 (eC_0 a cy I A T) rfl 2 (by decide) (hts _ mX7_bottle_0) (fun _ h9 => h9) rfl dX7_bottle_63 ?_
        refine va_get (D := (dC, dI)) (ci := 3) (v := .ref (a 8)) (C := RX3) (T := TX3) (N := 6) hx hb hts inX7_bottle_X3 hown hK hP 7 (eC_7 a cy I A T) rfl 0 (by decide) (hts _ mX7_bottle_2) (fun _ h9 => h9) rfl dX7_bottle_66 ?_
        refine va_get (D := (dC, dI)) (ci := 6) (v := .ref (a 10)) (C := RX6) (T := TX6) (N := 6) hx hb hts inX7_bottle_X6 hown hK hP 8 (eC_8 a cy I A T) rfl 1 (by decide) (hts _ mX7_bottle_3) (fun _ h9 => h9) rfl dX7_bottle_69 ?_
        refine lv_iload_n hx hb dX7_bottle_72 rfl (lv_at hl 1 rfl) ?_
        obtain ⟨i6, h⟩ := inb_some h
        refine g_iald (f := (A 5)) (j := p1.toNatClampNeg) hx hb hK hP 10 (eC_10 a cy I A T) i6 rfl dX7_bottle_73 ?_
        obtain rfl := Option.some.inj h
        exact g_iret hx hb hr hK hP hD hS hQ dX7_bottle_74
      · replace h := ite_f h c5
        rcases Decidable.em (p2 = 2) with c7 | c7
        · replace h := ite_t h c7
          refine lv_tableIn (off := 61) (tgt := 75) hx hb dX7_bottle_14 (by rw [c7]; decide) (by rw [c7]; decide) (by rw [c7]; rfl) (by decide) ?_
          refine lv_aload_n hx hb dX7_bottle_75 rfl (lv_at hl 0 rfl) ?_
          refine va_get (D := (dC, dI)) (ci := 7) (v := .ref (a 7)) (C := RX7) (T := TX7) (N := 9) hx hb hts inX7_bottle_X7 hown hK hP 0 (eC_0 a cy I A T) rfl 2 (by decide) (hts _ mX7_bottle_0) (fun _ h9 => h9) rfl dX7_bottle_76 ?_
          refine va_get (D := (dC, dI)) (ci := 3) (v := .ref (a 8)) (C := RX3) (T := TX3) (N := 6) hx hb hts inX7_bottle_X3 hown hK hP 7 (eC_7 a cy I A T) rfl 0 (by decide) (hts _ mX7_bottle_2) (fun _ h9 => h9) rfl dX7_bottle_79 ?_
          refine va_get (D := (dC, dI)) (ci := 6) (v := .ref (a 11)) (C := RX6) (T := TX6) (N := 6) hx hb hts inX7_bottle_X6 hown hK hP 8 (eC_8 a cy I A T) rfl 2 (by decide) (hts _ mX7_bottle_4) (fun _ h9 => h9) rfl dX7_bottle_82 ?_
          refine lv_iload_n hx hb dX7_bottle_85 rfl (lv_at hl 1 rfl) ?_
          obtain ⟨i8, h⟩ := inb_some h
          refine g_iald (f := (A 6)) (j := p1.toNatClampNeg) hx hb hK hP 11 (eC_11 a cy I A T) i8 rfl dX7_bottle_86 ?_
          obtain rfl := Option.some.inj h
          exact g_iret hx hb hr hK hP hD hS hQ dX7_bottle_87
        · replace h := ite_f h c7
          rcases Decidable.em (p2 = 3) with c9 | c9
          · replace h := ite_t h c9
            refine lv_tableIn (off := 74) (tgt := 88) hx hb dX7_bottle_14 (by rw [c9]; decide) (by rw [c9]; decide) (by rw [c9]; rfl) (by decide) ?_
            refine lv_aload_n hx hb dX7_bottle_88 rfl (lv_at hl 0 rfl) ?_
            refine va_get (D := (dC, dI)) (ci := 7) (v := .ref (a 7)) (C := RX7) (T := TX7) (N := 9) hx hb hts inX7_bottle_X7 hown hK hP 0 (eC_0 a cy I A T) rfl 2 (by decide) (hts _ mX7_bottle_0) (fun _ h9 => h9) rfl dX7_bottle_89 ?_
            refine va_get (D := (dC, dI)) (ci := 3) (v := .ref (a 13)) (C := RX3) (T := TX3) (N := 6) hx hb hts inX7_bottle_X3 hown hK hP 7 (eC_7 a cy I A T) rfl 2 (by decide) (hts _ mX7_bottle_5) (fun _ h9 => h9) rfl dX7_bottle_92 ?_
            refine lv_iload_n hx hb dX7_bottle_95 rfl (lv_at hl 1 rfl) ?_
            obtain ⟨i10, h⟩ := inb_some h
            refine g_iald (f := (A 8)) (j := p1.toNatClampNeg) hx hb hK hP 13 (eC_13 a cy I A T) i10 rfl dX7_bottle_96 ?_
            obtain rfl := Option.some.inj h
            exact g_iret hx hb hr hK hP hD hS hQ dX7_bottle_97
          · replace h := ite_f h c9
            rcases Decidable.em (p2 = 4) with c11 | c11
            · replace h := ite_t h c11
              refine lv_tableIn (off := 84) (tgt := 98) hx hb dX7_bottle_14 (by rw [c11]; decide) (by rw [c11]; decide) (by rw [c11]; rfl) (by decide) ?_
              refine lv_aload_n hx hb dX7_bottle_98 rfl (lv_at hl 0 rfl) ?_
              refine va_get (D := (dC, dI)) (ci := 7) (v := .ref (a 7)) (C := RX7) (T := TX7) (N := 9) hx hb hts inX7_bottle_X7 hown hK hP 0 (eC_0 a cy I A T) rfl 2 (by decide) (hts _ mX7_bottle_0) (fun _ h9 => h9) rfl dX7_bottle_99 ?_
              refine lv_iload_n hx hb dX7_bottle_102 rfl (lv_at hl 1 rfl) ?_
              refine lv_iconst (v := 0) hx hb dX7_bottle_103 (by decide) ?_
              obtain ⟨r12, hr12, h⟩ := bnd_some h
              refine g_callVi (As := [.int p1, .int 0]) (rest := []) (ci := 3) (q0 := 7) hx hb hml hown hts (c_X3_soundIn_C l dC dI a cy N I A T p1 0 r12 hr12) (cwV 2 hts gX7_bottle_X3_soundIn rfl rfl rfl (by decide +kernel) ⟨Nat.le_of_ble_eq_true rfl, Nat.le_of_ble_eq_true rfl⟩) hK hP hD hS hA rfl (eC_7 a cy I A T) rfl rfl hl.1 rfl (Nat.le_of_ble_eq_true rfl) dX7_bottle_104 (fun H locs hP hD hS => ?_)
              obtain rfl := Option.some.inj h
              exact g_iret hx hb hr hK hP hD hS hQ dX7_bottle_107
            · replace h := ite_f h c11
              rcases Decidable.em (p2 = 5) with c13 | c13
              · replace h := ite_t h c13
                refine lv_tableIn (off := 94) (tgt := 108) hx hb dX7_bottle_14 (by rw [c13]; decide) (by rw [c13]; decide) (by rw [c13]; rfl) (by decide) ?_
                refine lv_aload_n hx hb dX7_bottle_108 rfl (lv_at hl 0 rfl) ?_
                refine va_get (D := (dC, dI)) (ci := 7) (v := .ref (a 7)) (C := RX7) (T := TX7) (N := 9) hx hb hts inX7_bottle_X7 hown hK hP 0 (eC_0 a cy I A T) rfl 2 (by decide) (hts _ mX7_bottle_0) (fun _ h9 => h9) rfl dX7_bottle_109 ?_
                refine lv_iload_n hx hb dX7_bottle_112 rfl (lv_at hl 1 rfl) ?_
                refine lv_aload_n hx hb dX7_bottle_113 rfl (lv_at hl 0 rfl) ?_
                refine va_get (D := (dC, dI)) (ci := 7) (v := .ref (a 7)) (C := RX7) (T := TX7) (N := 9) hx hb hts inX7_bottle_X7 hown hK hP 0 (eC_0 a cy I A T) rfl 2 (by decide) (hts _ mX7_bottle_0) (fun _ h9 => h9) rfl dX7_bottle_114 ?_
                refine va_get (D := (dC, dI)) (ci := 3) (v := .ref (a 13)) (C := RX3) (T := TX3) (N := 6) hx hb hts inX7_bottle_X3 hown hK hP 7 (eC_7 a cy I A T) rfl 2 (by decide) (hts _ mX7_bottle_5) (fun _ h9 => h9) rfl dX7_bottle_117 ?_
                obtain ⟨r14, hr14, h⟩ := bnd_some h
                refine g_callVi (As := [.int p1, .ref (a 13)]) (rest := []) (ci := 3) (q0 := 7) hx hb hml hown hts (c_X3_lasts_C l dC dI a cy N I A T p1 r14 hr14) (cwV 2 hts gX7_bottle_X3_lasts rfl rfl rfl (by decide +kernel) ⟨Nat.le_of_ble_eq_true rfl, Nat.le_of_ble_eq_true rfl⟩) hK hP hD hS hA rfl (eC_7 a cy I A T) rfl rfl hl.1 rfl (Nat.le_of_ble_eq_true rfl) dX7_bottle_120 (fun H locs hP hD hS => ?_)
                obtain rfl := Option.some.inj h
                exact g_iret hx hb hr hK hP hD hS hQ dX7_bottle_123
              · replace h := ite_f h c13
                refine lv_tableOut (tgt := 124) hx hb dX7_bottle_14 (by have q0 := lv_neT (a := 0) c3 rfl; have q1 := lv_neT (a := 1) c5 rfl; have q2 := lv_neT (a := 2) c7 rfl; have q3 := lv_neT (a := 3) c9 rfl; have q4 := lv_neT (a := 4) c11 rfl; have q5 := lv_neT (a := 5) c13 rfl; omega) (by decide) ?_
                refine lv_iconst (v := (-1)) hx hb dX7_bottle_124 (by decide) ?_
                obtain rfl := Option.some.inj h
                exact g_iret hx hb hr hK hP hD hS hQ dX7_bottle_125
  · replace h := ite_t h c2
    refine lv_iconst (v := (-1)) hx hb dX7_bottle_11 (by decide) ?_
    obtain rfl := Option.some.inj h
    exact g_iret hx hb hr hK hP hD hS hQ dX7_bottle_12
theorem inX3_allLast_X3 : ∀ w ∈ u_ws RX3 TX3 6, w ∈ wsX3_allLast := by decide +kernel
theorem mX3_allLast_0 : Cond.fieldLink RX3 12 "WarmBottles$Night" "told" "LWarmBottles$Told;" ∈ wsX3_allLast := List.mem_of_getElem? (i := 1) rfl
theorem inX3_allLast_X6 : ∀ w ∈ u_ws RX6 TX6 6, w ∈ wsX3_allLast := by decide +kernel
theorem mX3_allLast_1 : Cond.fieldLink RX3 40 "WarmBottles$Told" "bottles" "I" ∈ wsX3_allLast := List.mem_of_getElem? (i := 2) rfl
theorem mX3_allLast_2 : Cond.methodLink RX3 56 Lib.Math.min.name ∈ wsX3_allLast := List.mem_of_getElem? (i := 3) rfl
theorem mX3_allLast_3 : Cond.static Lib.Math.min.name ∈ wsX3_allLast := List.mem_of_getElem? (i := 4) rfl
theorem mX3_allLast_4 : Cond.initialized "java/lang/Math" ∈ wsX3_allLast := List.mem_of_getElem? (i := 5) rfl
theorem mX3_allLast_5 : Cond.code Lib.Math.min.name Lib.Math.min.code 2 (some .int) ∈ wsX3_allLast := List.mem_of_getElem? (i := 6) rfl
def rm_X3_allLast_C : Room := { frames := 7, cells := 0, slots := 0, locals := 330 }
def f_X3_allLast_C_L5 (N : Nat) (k_5 : Int32 → Int32 → Option (Int32)) (I : (Nat → Int32)) (A : (Nat → Nat → Int32)) : Nat → Int32 → Int32 → Option (Int32)
  | 0, _, _ => none
  | n_5 + 1, x2, x3 => (if (I 13) ≤ x3 then (k_5 x2 x3) else (Option.bind (f_X3_lasts_C N I A x3) (fun r2 => (f_X3_allLast_C_L5 N k_5 I A n_5 (iMin x2 r2) (x3 + 1)))))
def f_X3_allLast_C (N : Nat) (I : Nat → Int32) (A : Nat → Nat → Int32)  : Option (Int32) := (f_X3_allLast_C_L5 N (fun (x2 : Int32) (x3 : Int32) => some x2) I A N 99 0)
set_option maxHeartbeats 4000000 in
set_option maxRecDepth 100000 in
theorem c_X3_allLast_C (l : Launch) (dC : Nat → ClassId) (dI : Nat → Nat → Nat) (a : Nat → Nat) (cy : Nat → ClassId) (N : Nat) (I : Nat → Int32) (A : Nat → Nat → Int32) (T : Int64)  (res : Int32) (h : f_X3_allLast_C N I A  = some res) (sz : Nat) : Met l yX3_allLast wsX3_allLast rm_X3_allLast_C (g_Pre (dC, dI) cy [.ref (a 7), .ref (a 13)] (wC a cy I A T) sz) (g_Qi (dC, dI) cy res (wC a cy I A T) (wC a cy I A T) sz) 0 0 (va_A (wC a cy I A T) sz) := by
  unfold f_X3_allLast_C at h
  refine g_entry _ _ _ _ _ _ (cc := cX3_allLast) (maxL := 4) (ret := (some .int)) (by decide) rfl (Nat.le_of_ble_eq_true rfl) ?_
  intro p e s m args below meth c ls hx hb hml hown hts hr hlocks hA hK hP hD hS hl Q hQ
  have hl : lv_has ls 4 [(0, .ref (a 7)), (1, .ref (a 13))] := hl
  have hown : s.vm.findClass RX3 = some m.cls := hown
  refine lv_bipush (v := 99) hx hb dX3_allLast_0 (by decide) ?_
  refine lv_istore_n (lv' := [(2, .int 99), (0, .ref (a 7)), (1, .ref (a 13))]) hx hb dX3_allLast_2 rfl hl (by decide) rfl (fun ls hl => ?_)
  refine lv_iconst (v := 0) hx hb dX3_allLast_3 (by decide) ?_
  refine lv_istore_n (lv' := [(3, .int 0), (2, .int 99), (0, .ref (a 7)), (1, .ref (a 13))]) hx hb dX3_allLast_4 rfl hl (by decide) rfl (fun ls hl => ?_)
  have lp5 : ∀  (k_5 : Int32 → Int32 → Option (Int32)), (∀ (x2 : Int32) (x3 : Int32), k_5 x2 x3 = some res → g_At (dC, dI) p l e (headSpec wsX3_allLast rm_X3_allLast_C).room s m args below meth c Q (wC a cy I A T) sz 4 (wC a cy I A T) [(2, .int x2)] 33 []) → ∀ (n_5 : Nat) (x2 : Int32) (x3 : Int32), f_X3_allLast_C_L5 N k_5 I A n_5 x2 x3 = some res → g_At (dC, dI) p l e (headSpec wsX3_allLast rm_X3_allLast_C).room s m args below meth c Q (wC a cy I A T) sz 4 (wC a cy I A T) [(0, .ref (a 7)), (1, .ref (a 13)), (2, .int x2), (3, .int x3)] 5 [] := by
    intro  k_5 hk_5 n_5
    induction n_5 with
    | zero =>
      intro x2 x3 h
      exact absurd h (by rw [f_X3_allLast_C_L5]; exact fun q => by cases q)
    | succ n_5 ih5 =>
      intro x2 x3 h H locs hP hD hS ls hl
      rw [f_X3_allLast_C_L5] at h
      refine lv_iload_n hx hb dX3_allLast_5 rfl (lv_at hl 3 rfl) ?_
      refine lv_aload_n hx hb dX3_allLast_6 rfl (lv_at hl 0 rfl) ?_
      refine va_get (D := (dC, dI)) (ci := 3) (v := .ref (a 8)) (C := RX3) (T := TX3) (N := 6) hx hb hts inX3_allLast_X3 hown hK hP 7 (eC_7 a cy I A T) rfl 0 (by decide) (hts _ mX3_allLast_0) (fun _ h9 => h9) rfl dX3_allLast_7 ?_
      refine va_get (D := (dC, dI)) (ci := 6) (v := .int (I 13)) (C := RX6) (T := TX6) (N := 6) hx hb hts inX3_allLast_X6 hown hK hP 8 (eC_8 a cy I A T) rfl 3 (by decide) (hts _ mX3_allLast_1) (fun _ h9 => h9) rfl dX3_allLast_10 ?_
      refine lv_icmp_ge (tgt := 33) hx hb dX3_allLast_13 (by decide) (fun c1 => ?_) (fun c1 => ?_)
      · replace h := ite_t h c1
        exact hk_5 _ _ h _ _ hP hD hS _ (lv_sub hl [2] rfl)
      · replace h := ite_f h c1
        refine lv_iload_n hx hb dX3_allLast_16 rfl (lv_at hl 2 rfl) ?_
        refine lv_aload_n hx hb dX3_allLast_17 rfl (lv_at hl 0 rfl) ?_
        refine lv_iload_n hx hb dX3_allLast_18 rfl (lv_at hl 3 rfl) ?_
        refine lv_aload_n hx hb dX3_allLast_19 rfl (lv_at hl 1 rfl) ?_
        obtain ⟨r2, hr2, h⟩ := bnd_some h
        refine g_callVi (As := [.int x3, .ref (a 13)]) (rest := [.int x2]) (ci := 3) (q0 := 7) hx hb hml hown hts (c_X3_lasts_C l dC dI a cy N I A T x3 r2 hr2) (cwV 2 hts gX3_allLast_X3_lasts rfl rfl rfl (by decide +kernel) ⟨Nat.le_of_ble_eq_true rfl, Nat.le_of_ble_eq_true rfl⟩) hK hP hD hS hA rfl (eC_7 a cy I A T) rfl rfl hl.1 rfl (Nat.le_of_ble_eq_true rfl) dX3_allLast_20 (fun H locs hP hD hS => ?_)
        refine g_mmin hx hb (hml.trans hl.1.symm) hown (hts _ mX3_allLast_2) (hts _ mX3_allLast_3) (hts _ mX3_allLast_4) (hts _ mX3_allLast_5) (Nat.le_of_ble_eq_true rfl) (Nat.le_of_ble_eq_true rfl) (Nat.zero_le _) (Nat.zero_le _) dX3_allLast_23 ?_
        refine lv_istore_n (lv' := [(2, .int (iMin x2 r2)), (0, .ref (a 7)), (1, .ref (a 13)), (3, .int x3)]) hx hb dX3_allLast_26 rfl hl (by decide) rfl (fun ls hl => ?_)
        refine lv_iinc (v := (x3 + 1)) (lv' := [(3, .int (x3 + 1)), (2, .int (iMin x2 r2)), (0, .ref (a 7)), (1, .ref (a 13))]) hx hb dX3_allLast_27 hl (k := 3) rfl rfl (by decide) rfl (fun ls hl => ?_)
        refine lv_goto (tgt := 5) hx hb dX3_allLast_30 (by decide) ?_
        exact ih5 _ _ h _ _ hP hD hS _ (lv_sub hl [2, 3, 1, 0] rfl)
  refine lp5  _ ?_ N _ _ h _ _ hP hD hS _ (lv_sub hl [2, 3, 1, 0] rfl)
  intro x2 x3 h H locs hP hD hS ls hl
  refine lv_iload_n hx hb dX3_allLast_33 rfl (lv_at hl 0 rfl) ?_
  obtain rfl := Option.some.inj h
  exact g_iret hx hb hr hK hP hD hS hQ dX3_allLast_34
theorem inX3_numberWarm_X3 : ∀ w ∈ u_ws RX3 TX3 6, w ∈ wsX3_numberWarm := by decide +kernel
theorem mX3_numberWarm_0 : Cond.fieldLink RX3 12 "WarmBottles$Night" "told" "LWarmBottles$Told;" ∈ wsX3_numberWarm := List.mem_of_getElem? (i := 1) rfl
theorem inX3_numberWarm_X6 : ∀ w ∈ u_ws RX6 TX6 6, w ∈ wsX3_numberWarm := by decide +kernel
theorem mX3_numberWarm_1 : Cond.fieldLink RX3 40 "WarmBottles$Told" "bottles" "I" ∈ wsX3_numberWarm := List.mem_of_getElem? (i := 2) rfl
theorem mX3_numberWarm_2 : Cond.fieldLink RX3 18 "WarmBottles$Night" "warm" "[I" ∈ wsX3_numberWarm := List.mem_of_getElem? (i := 3) rfl
def rm_X3_numberWarm_C : Room := { frames := 3, cells := 0, slots := 0, locals := 210 }
def f_X3_numberWarm_C_L4 (N : Nat) (k_4 : Int32 → Int32 → Option (Int32)) (I : (Nat → Int32)) (A : (Nat → Nat → Int32)) : Nat → Int32 → Int32 → Option (Int32)
  | 0, _, _ => none
  | n_4 + 1, x1, x2 => (if (I 13) ≤ x2 then (k_4 x1 x2) else (if x2 < 0 ∨ 6 ≤ x2.toNatClampNeg then none else (if ((A 7) x2.toNatClampNeg) ≤ 0 then (f_X3_numberWarm_C_L4 N k_4 I A n_4 x1 (x2 + 1)) else (f_X3_numberWarm_C_L4 N k_4 I A n_4 (x1 + 1) (x2 + 1)))))
def f_X3_numberWarm_C (N : Nat) (I : Nat → Int32) (A : Nat → Nat → Int32)  : Option (Int32) := (f_X3_numberWarm_C_L4 N (fun (x1 : Int32) (x2 : Int32) => some x1) I A N 0 0)
set_option maxHeartbeats 4000000 in
set_option maxRecDepth 100000 in
theorem c_X3_numberWarm_C (l : Launch) (dC : Nat → ClassId) (dI : Nat → Nat → Nat) (a : Nat → Nat) (cy : Nat → ClassId) (N : Nat) (I : Nat → Int32) (A : Nat → Nat → Int32) (T : Int64)  (res : Int32) (h : f_X3_numberWarm_C N I A  = some res) (sz : Nat) : Met l yX3_numberWarm wsX3_numberWarm rm_X3_numberWarm_C (g_Pre (dC, dI) cy [.ref (a 7)] (wC a cy I A T) sz) (g_Qi (dC, dI) cy res (wC a cy I A T) (wC a cy I A T) sz) 0 0 (va_A (wC a cy I A T) sz) := by
  unfold f_X3_numberWarm_C at h
  refine g_entry _ _ _ _ _ _ (cc := cX3_numberWarm) (maxL := 3) (ret := (some .int)) (by decide) rfl (Nat.le_of_ble_eq_true rfl) ?_
  intro p e s m args below meth c ls hx hb hml hown hts hr hlocks hA hK hP hD hS hl Q hQ
  have hl : lv_has ls 3 [(0, .ref (a 7))] := hl
  have hown : s.vm.findClass RX3 = some m.cls := hown
  refine lv_iconst (v := 0) hx hb dX3_numberWarm_0 (by decide) ?_
  refine lv_istore_n (lv' := [(1, .int 0), (0, .ref (a 7))]) hx hb dX3_numberWarm_1 rfl hl (by decide) rfl (fun ls hl => ?_)
  refine lv_iconst (v := 0) hx hb dX3_numberWarm_2 (by decide) ?_
  refine lv_istore_n (lv' := [(2, .int 0), (1, .int 0), (0, .ref (a 7))]) hx hb dX3_numberWarm_3 rfl hl (by decide) rfl (fun ls hl => ?_)
  have lp4 : ∀  (k_4 : Int32 → Int32 → Option (Int32)), (∀ (x1 : Int32) (x2 : Int32), k_4 x1 x2 = some res → g_At (dC, dI) p l e (headSpec wsX3_numberWarm rm_X3_numberWarm_C).room s m args below meth c Q (wC a cy I A T) sz 3 (wC a cy I A T) [(1, .int x1)] 33 []) → ∀ (n_4 : Nat) (x1 : Int32) (x2 : Int32), f_X3_numberWarm_C_L4 N k_4 I A n_4 x1 x2 = some res → g_At (dC, dI) p l e (headSpec wsX3_numberWarm rm_X3_numberWarm_C).room s m args below meth c Q (wC a cy I A T) sz 3 (wC a cy I A T) [(0, .ref (a 7)), (1, .int x1), (2, .int x2)] 4 [] := by
    intro  k_4 hk_4 n_4
    induction n_4 with
    | zero =>
      intro x1 x2 h
      exact absurd h (by rw [f_X3_numberWarm_C_L4]; exact fun q => by cases q)
    | succ n_4 ih4 =>
      intro x1 x2 h H locs hP hD hS ls hl
      rw [f_X3_numberWarm_C_L4] at h
      refine lv_iload_n hx hb dX3_numberWarm_4 rfl (lv_at hl 2 rfl) ?_
      refine lv_aload_n hx hb dX3_numberWarm_5 rfl (lv_at hl 0 rfl) ?_
      refine va_get (D := (dC, dI)) (ci := 3) (v := .ref (a 8)) (C := RX3) (T := TX3) (N := 6) hx hb hts inX3_numberWarm_X3 hown hK hP 7 (eC_7 a cy I A T) rfl 0 (by decide) (hts _ mX3_numberWarm_0) (fun _ h9 => h9) rfl dX3_numberWarm_6 ?_
      refine va_get (D := (dC, dI)) (ci := 6) (v := .int (I 13)) (C := RX6) (T := TX6) (N := 6) hx hb hts inX3_numberWarm_X6 hown hK hP 8 (eC_8 a cy I A T) rfl 3 (by decide) (hts _ mX3_numberWarm_1) (fun _ h9 => h9) rfl dX3_numberWarm_9 ?_
      refine lv_icmp_ge (tgt := 33) hx hb dX3_numberWarm_12 (by decide) (fun c1 => ?_) (fun c1 => ?_)
      · replace h := ite_t h c1
        exact hk_4 _ _ h _ _ hP hD hS _ (lv_sub hl [1] rfl)
      · replace h := ite_f h c1
        refine lv_aload_n hx hb dX3_numberWarm_15 rfl (lv_at hl 0 rfl) ?_
        refine va_get (D := (dC, dI)) (ci := 3) (v := .ref (a 12)) (C := RX3) (T := TX3) (N := 6) hx hb hts inX3_numberWarm_X3 hown hK hP 7 (eC_7 a cy I A T) rfl 1 (by decide) (hts _ mX3_numberWarm_2) (fun _ h9 => h9) rfl dX3_numberWarm_16 ?_
        refine lv_iload_n hx hb dX3_numberWarm_19 rfl (lv_at hl 2 rfl) ?_
        obtain ⟨i2, h⟩ := inb_some h
        refine g_iald (f := (A 7)) (j := x2.toNatClampNeg) hx hb hK hP 12 (eC_12 a cy I A T) i2 rfl dX3_numberWarm_20 ?_
        refine lv_if_le (tgt := 27) hx hb dX3_numberWarm_21 (by decide) (fun c3 => ?_) (fun c3 => ?_)
        · replace h := ite_t h c3
          refine lv_iinc (v := (x2 + 1)) (lv' := [(2, .int (x2 + 1)), (0, .ref (a 7)), (1, .int x1)]) hx hb dX3_numberWarm_27 hl (k := 2) rfl rfl (by decide) rfl (fun ls hl => ?_)
          refine lv_goto (tgt := 4) hx hb dX3_numberWarm_30 (by decide) ?_
          exact ih4 _ _ h _ _ hP hD hS _ (lv_sub hl [1, 2, 0] rfl)
        · replace h := ite_f h c3
          refine lv_iinc (v := (x1 + 1)) (lv' := [(1, .int (x1 + 1)), (0, .ref (a 7)), (2, .int x2)]) hx hb dX3_numberWarm_24 hl (k := 1) rfl rfl (by decide) rfl (fun ls hl => ?_)
          refine lv_iinc (v := (x2 + 1)) (lv' := [(2, .int (x2 + 1)), (1, .int (x1 + 1)), (0, .ref (a 7))]) hx hb dX3_numberWarm_27 hl (k := 2) rfl rfl (by decide) rfl (fun ls hl => ?_)
          refine lv_goto (tgt := 4) hx hb dX3_numberWarm_30 (by decide) ?_
          exact ih4 _ _ h _ _ hP hD hS _ (lv_sub hl [2, 1, 0] rfl)
  refine lp4  _ ?_ N _ _ h _ _ hP hD hS _ (lv_sub hl [2, 1, 0] rfl)
  intro x1 x2 h H locs hP hD hS ls hl
  refine lv_iload_n hx hb dX3_numberWarm_33 rfl (lv_at hl 0 rfl) ?_
  obtain rfl := Option.some.inj h
  exact g_iret hx hb hr hK hP hD hS hQ dX3_numberWarm_34
theorem inX7_now_X7 : ∀ w ∈ u_ws RX7 TX7 9, w ∈ wsX7_now := by decide +kernel
theorem mX7_now_0 : Cond.fieldLink RX7 26 "WarmBottles" "night" "LWarmBottles$Night;" ∈ wsX7_now := List.mem_of_getElem? (i := 1) rfl
theorem inX7_now_X3 : ∀ w ∈ u_ws RX3 TX3 6, w ∈ wsX7_now := by decide +kernel
theorem mX7_now_1 : Cond.fieldLink RX7 117 "WarmBottles$Night" "hour" "I" ∈ wsX7_now := List.mem_of_getElem? (i := 2) rfl
theorem mX7_now_2 : Cond.fieldLink RX7 120 "WarmBottles$Night" "frost" "I" ∈ wsX7_now := List.mem_of_getElem? (i := 3) rfl
theorem mX7_now_3 : Cond.fieldLink RX7 123 "WarmBottles$Night" "kettle" "I" ∈ wsX7_now := List.mem_of_getElem? (i := 4) rfl
theorem mX7_now_4 : Cond.fieldLink RX7 76 "WarmBottles$Night" "told" "LWarmBottles$Told;" ∈ wsX7_now := List.mem_of_getElem? (i := 5) rfl
theorem inX7_now_X6 : ∀ w ∈ u_ws RX6 TX6 6, w ∈ wsX7_now := by decide +kernel
theorem mX7_now_5 : Cond.fieldLink RX7 126 "WarmBottles$Told" "bottles" "I" ∈ wsX7_now := List.mem_of_getElem? (i := 6) rfl
theorem mX7_now_6 : Cond.fieldLink RX7 106 "WarmBottles$Night" "bed" "[I" ∈ wsX7_now := List.mem_of_getElem? (i := 7) rfl
theorem mX7_now_7 : Cond.fieldLink RX7 33 "WarmBottles" "past" "LWarmBottles$Past;" ∈ wsX7_now := List.mem_of_getElem? (i := 8) rfl
theorem inX7_now_X4 : ∀ w ∈ u_ws RX4 TX4 3, w ∈ wsX7_now := by decide +kernel
theorem mX7_now_8 : Cond.fieldLink RX7 86 "WarmBottles$Past" "known" "I" ∈ wsX7_now := List.mem_of_getElem? (i := 9) rfl
def rm_X7_now_C : Room := { frames := 9, cells := 0, slots := 0, locals := 390 }
def f_X7_now_C (N : Nat) (I : Nat → Int32) (A : Nat → Nat → Int32) (p1 : Int32) : Option (Int32) := (if p1 = 0 then some (I 10) else (if p1 = 1 then some (I 11) else (if p1 = 2 then some (I 12) else (if p1 = 3 then (if (I 13) ≤ 0 then some (-9) else (Option.bind (f_X3_allLast_C N I A) (fun r6 => some r6))) else (if p1 = 4 then (Option.bind (f_X3_numberWarm_C N I A) (fun r8 => some r8)) else (if p1 = 5 then some (I 17) else some (-1)))))))
set_option maxHeartbeats 4000000 in
set_option maxRecDepth 100000 in
theorem c_X7_now_C (l : Launch) (dC : Nat → ClassId) (dI : Nat → Nat → Nat) (a : Nat → Nat) (cy : Nat → ClassId) (N : Nat) (I : Nat → Int32) (A : Nat → Nat → Int32) (T : Int64) (p1 : Int32) (res : Int32) (h : f_X7_now_C N I A p1 = some res) (sz : Nat) : Met l yX7_now wsX7_now rm_X7_now_C (g_Pre (dC, dI) cy [.ref (a 0), .int p1] (wC a cy I A T) sz) (g_Qi (dC, dI) cy res (wC a cy I A T) (wC a cy I A T) sz) 0 0 (va_A (wC a cy I A T) sz) := by
  unfold f_X7_now_C at h
  refine g_entry _ _ _ _ _ _ (cc := cX7_now) (maxL := 2) (ret := (some .int)) (by decide) rfl (Nat.le_of_ble_eq_true rfl) ?_
  intro p e s m args below meth c ls hx hb hml hown hts hr hlocks hA hK hP hD hS hl Q hQ
  have hl : lv_has ls 2 [(0, .ref (a 0)), (1, .int p1)] := hl
  have hown : s.vm.findClass RX7 = some m.cls := hown
  refine lv_iload_n hx hb dX7_now_0 rfl (lv_at hl 1 rfl) ?_
  rcases Decidable.em (p1 = 0) with c1 | c1
  · replace h := ite_t h c1
    refine lv_tableIn (off := 39) (tgt := 40) hx hb dX7_now_1 (by rw [c1]; decide) (by rw [c1]; decide) (by rw [c1]; rfl) (by decide) ?_
    refine lv_aload_n hx hb dX7_now_40 rfl (lv_at hl 0 rfl) ?_
    refine va_get (D := (dC, dI)) (ci := 7) (v := .ref (a 7)) (C := RX7) (T := TX7) (N := 9) hx hb hts inX7_now_X7 hown hK hP 0 (eC_0 a cy I A T) rfl 2 (by decide) (hts _ mX7_now_0) (fun _ h9 => h9) rfl dX7_now_41 ?_
    refine va_get (D := (dC, dI)) (ci := 3) (v := .int (I 10)) (C := RX3) (T := TX3) (N := 6) hx hb hts inX7_now_X3 hown hK hP 7 (eC_7 a cy I A T) rfl 3 (by decide) (hts _ mX7_now_1) (fun _ h9 => h9) rfl dX7_now_44 ?_
    obtain rfl := Option.some.inj h
    exact g_iret hx hb hr hK hP hD hS hQ dX7_now_47
  · replace h := ite_f h c1
    rcases Decidable.em (p1 = 1) with c2 | c2
    · replace h := ite_t h c2
      refine lv_tableIn (off := 47) (tgt := 48) hx hb dX7_now_1 (by rw [c2]; decide) (by rw [c2]; decide) (by rw [c2]; rfl) (by decide) ?_
      refine lv_aload_n hx hb dX7_now_48 rfl (lv_at hl 0 rfl) ?_
      refine va_get (D := (dC, dI)) (ci := 7) (v := .ref (a 7)) (C := RX7) (T := TX7) (N := 9) hx hb hts inX7_now_X7 hown hK hP 0 (eC_0 a cy I A T) rfl 2 (by decide) (hts _ mX7_now_0) (fun _ h9 => h9) rfl dX7_now_49 ?_
      refine va_get (D := (dC, dI)) (ci := 3) (v := .int (I 11)) (C := RX3) (T := TX3) (N := 6) hx hb hts inX7_now_X3 hown hK hP 7 (eC_7 a cy I A T) rfl 4 (by decide) (hts _ mX7_now_2) (fun _ h9 => h9) rfl dX7_now_52 ?_
      obtain rfl := Option.some.inj h
      exact g_iret hx hb hr hK hP hD hS hQ dX7_now_55
    · replace h := ite_f h c2
      rcases Decidable.em (p1 = 2) with c3 | c3
      · replace h := ite_t h c3
        refine lv_tableIn (off := 55) (tgt := 56) hx hb dX7_now_1 (by rw [c3]; decide) (by rw [c3]; decide) (by rw [c3]; rfl) (by decide) ?_
        refine lv_aload_n hx hb dX7_now_56 rfl (lv_at hl 0 rfl) ?_
        refine va_get (D := (dC, dI)) (ci := 7) (v := .ref (a 7)) (C := RX7) (T := TX7) (N := 9) hx hb hts inX7_now_X7 hown hK hP 0 (eC_0 a cy I A T) rfl 2 (by decide) (hts _ mX7_now_0) (fun _ h9 => h9) rfl dX7_now_57 ?_
        refine va_get (D := (dC, dI)) (ci := 3) (v := .int (I 12)) (C := RX3) (T := TX3) (N := 6) hx hb hts inX7_now_X3 hown hK hP 7 (eC_7 a cy I A T) rfl 5 (by decide) (hts _ mX7_now_3) (fun _ h9 => h9) rfl dX7_now_60 ?_
        obtain rfl := Option.some.inj h
        exact g_iret hx hb hr hK hP hD hS hQ dX7_now_63
      · replace h := ite_f h c3
        rcases Decidable.em (p1 = 3) with c4 | c4
        · replace h := ite_t h c4
          refine lv_tableIn (off := 63) (tgt := 64) hx hb dX7_now_1 (by rw [c4]; decide) (by rw [c4]; decide) (by rw [c4]; rfl) (by decide) ?_
          refine lv_aload_n hx hb dX7_now_64 rfl (lv_at hl 0 rfl) ?_
          refine va_get (D := (dC, dI)) (ci := 7) (v := .ref (a 7)) (C := RX7) (T := TX7) (N := 9) hx hb hts inX7_now_X7 hown hK hP 0 (eC_0 a cy I A T) rfl 2 (by decide) (hts _ mX7_now_0) (fun _ h9 => h9) rfl dX7_now_65 ?_
          refine va_get (D := (dC, dI)) (ci := 3) (v := .ref (a 8)) (C := RX3) (T := TX3) (N := 6) hx hb hts inX7_now_X3 hown hK hP 7 (eC_7 a cy I A T) rfl 0 (by decide) (hts _ mX7_now_4) (fun _ h9 => h9) rfl dX7_now_68 ?_
          refine va_get (D := (dC, dI)) (ci := 6) (v := .int (I 13)) (C := RX6) (T := TX6) (N := 6) hx hb hts inX7_now_X6 hown hK hP 8 (eC_8 a cy I A T) rfl 3 (by decide) (hts _ mX7_now_5) (fun _ h9 => h9) rfl dX7_now_71 ?_
          refine lv_if_le (tgt := 94) hx hb dX7_now_74 (by decide) (fun c5 => ?_) (fun c5 => ?_)
          · replace h := ite_t h c5
            refine lv_bipush (v := (-9)) hx hb dX7_now_94 (by decide) ?_
            obtain rfl := Option.some.inj h
            exact g_iret hx hb hr hK hP hD hS hQ dX7_now_96
          · replace h := ite_f h c5
            refine lv_aload_n hx hb dX7_now_77 rfl (lv_at hl 0 rfl) ?_
            refine va_get (D := (dC, dI)) (ci := 7) (v := .ref (a 7)) (C := RX7) (T := TX7) (N := 9) hx hb hts inX7_now_X7 hown hK hP 0 (eC_0 a cy I A T) rfl 2 (by decide) (hts _ mX7_now_0) (fun _ h9 => h9) rfl dX7_now_78 ?_
            refine lv_aload_n hx hb dX7_now_81 rfl (lv_at hl 0 rfl) ?_
            refine va_get (D := (dC, dI)) (ci := 7) (v := .ref (a 7)) (C := RX7) (T := TX7) (N := 9) hx hb hts inX7_now_X7 hown hK hP 0 (eC_0 a cy I A T) rfl 2 (by decide) (hts _ mX7_now_0) (fun _ h9 => h9) rfl dX7_now_82 ?_
            refine va_get (D := (dC, dI)) (ci := 3) (v := .ref (a 13)) (C := RX3) (T := TX3) (N := 6) hx hb hts inX7_now_X3 hown hK hP 7 (eC_7 a cy I A T) rfl 2 (by decide) (hts _ mX7_now_6) (fun _ h9 => h9) rfl dX7_now_85 ?_
            obtain ⟨r6, hr6, h⟩ := bnd_some h
            refine g_callVi (As := [.ref (a 13)]) (rest := []) (ci := 3) (q0 := 7) hx hb hml hown hts (c_X3_allLast_C l dC dI a cy N I A T r6 hr6) (cwV 1 hts gX7_now_X3_allLast rfl rfl rfl (by decide +kernel) ⟨Nat.le_of_ble_eq_true rfl, Nat.le_of_ble_eq_true rfl⟩) hK hP hD hS hA rfl (eC_7 a cy I A T) rfl rfl hl.1 rfl (Nat.le_of_ble_eq_true rfl) dX7_now_88 (fun H locs hP hD hS => ?_)
            refine lv_goto (tgt := 96) hx hb dX7_now_91 (by decide) ?_
            obtain rfl := Option.some.inj h
            exact g_iret hx hb hr hK hP hD hS hQ dX7_now_96
        · replace h := ite_f h c4
          rcases Decidable.em (p1 = 4) with c7 | c7
          · replace h := ite_t h c7
            refine lv_tableIn (off := 96) (tgt := 97) hx hb dX7_now_1 (by rw [c7]; decide) (by rw [c7]; decide) (by rw [c7]; rfl) (by decide) ?_
            refine lv_aload_n hx hb dX7_now_97 rfl (lv_at hl 0 rfl) ?_
            refine va_get (D := (dC, dI)) (ci := 7) (v := .ref (a 7)) (C := RX7) (T := TX7) (N := 9) hx hb hts inX7_now_X7 hown hK hP 0 (eC_0 a cy I A T) rfl 2 (by decide) (hts _ mX7_now_0) (fun _ h9 => h9) rfl dX7_now_98 ?_
            obtain ⟨r8, hr8, h⟩ := bnd_some h
            refine g_callVi (As := []) (rest := []) (ci := 3) (q0 := 7) hx hb hml hown hts (c_X3_numberWarm_C l dC dI a cy N I A T r8 hr8) (cwV 0 hts gX7_now_X3_numberWarm rfl rfl rfl (by decide +kernel) ⟨Nat.le_of_ble_eq_true rfl, Nat.le_of_ble_eq_true rfl⟩) hK hP hD hS hA rfl (eC_7 a cy I A T) rfl rfl hl.1 rfl (Nat.le_of_ble_eq_true rfl) dX7_now_101 (fun H locs hP hD hS => ?_)
            obtain rfl := Option.some.inj h
            exact g_iret hx hb hr hK hP hD hS hQ dX7_now_104
          · replace h := ite_f h c7
            rcases Decidable.em (p1 = 5) with c9 | c9
            · replace h := ite_t h c9
              refine lv_tableIn (off := 104) (tgt := 105) hx hb dX7_now_1 (by rw [c9]; decide) (by rw [c9]; decide) (by rw [c9]; rfl) (by decide) ?_
              refine lv_aload_n hx hb dX7_now_105 rfl (lv_at hl 0 rfl) ?_
              refine va_get (D := (dC, dI)) (ci := 7) (v := .ref (a 14)) (C := RX7) (T := TX7) (N := 9) hx hb hts inX7_now_X7 hown hK hP 0 (eC_0 a cy I A T) rfl 3 (by decide) (hts _ mX7_now_7) (fun _ h9 => h9) rfl dX7_now_106 ?_
              refine va_get (D := (dC, dI)) (ci := 4) (v := .int (I 17)) (C := RX4) (T := TX4) (N := 3) hx hb hts inX7_now_X4 hown hK hP 14 (eC_14 a cy I A T) rfl 2 (by decide) (hts _ mX7_now_8) (fun _ h9 => h9) rfl dX7_now_109 ?_
              obtain rfl := Option.some.inj h
              exact g_iret hx hb hr hK hP hD hS hQ dX7_now_112
            · replace h := ite_f h c9
              refine lv_tableOut (tgt := 113) hx hb dX7_now_1 (by have q0 := lv_neT (a := 0) c1 rfl; have q1 := lv_neT (a := 1) c2 rfl; have q2 := lv_neT (a := 2) c3 rfl; have q3 := lv_neT (a := 3) c4 rfl; have q4 := lv_neT (a := 4) c7 rfl; have q5 := lv_neT (a := 5) c9 rfl; omega) (by decide) ?_
              refine lv_iconst (v := (-1)) hx hb dX7_now_113 (by decide) ?_
              obtain rfl := Option.some.inj h
              exact g_iret hx hb hr hK hP hD hS hQ dX7_now_114
