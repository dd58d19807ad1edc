theorem inX6_beAsAtFirst_X6 : ∀ w ∈ u_ws RX6 TX6 6, w ∈ wsX6_beAsAtFirst := by decide +kernel
theorem mX6_beAsAtFirst_0 : Cond.fieldLink RX6 24 "WarmBottles$Told" "bottles" "I" ∈ wsX6_beAsAtFirst := List.mem_of_getElem? (i := 1) rfl
theorem mX6_beAsAtFirst_1 : Cond.fieldLink RX6 28 "WarmBottles$Told" "kettle" "I" ∈ wsX6_beAsAtFirst := List.mem_of_getElem? (i := 2) rfl
theorem mX6_beAsAtFirst_2 : Cond.fieldLink RX6 31 "WarmBottles$Told" "pint" "I" ∈ wsX6_beAsAtFirst := List.mem_of_getElem? (i := 3) rfl
def rm_X6_beAsAtFirst_D : Room := { frames := 3, cells := 0, slots := 0, locals := 210 }
def f_X6_beAsAtFirst_D (N : Nat) (I : Nat → Int32) (A : Nat → Nat → Int32)  : Option ((Nat → Int32)) := some (upd (upd (upd I 0 0) 1 10) 2 10)
set_option maxHeartbeats 4000000 in
set_option maxRecDepth 100000 in
theorem c_X6_beAsAtFirst_D (l : Launch) (dC : Nat → ClassId) (dI : Nat → Nat → Nat) (a : Nat → Nat) (cy : Nat → ClassId) (N : Nat) (I : Nat → Int32) (A : Nat → Nat → Int32) (T : Int64)  (res : (Nat → Int32)) (h : f_X6_beAsAtFirst_D N I A  = some res) (sz : Nat) : Met l yX6_beAsAtFirst wsX6_beAsAtFirst rm_X6_beAsAtFirst_D (g_Pre (dC, dI) cy [.ref (a 0)] (wD a cy I A T) sz) (g_Qv (dC, dI) cy (wD a cy I A T) (wD a cy res A T) sz) 0 0 (va_A (wD a cy I A T) sz) := by
  unfold f_X6_beAsAtFirst_D at h
  refine g_entry _ _ _ _ _ _ (cc := cX6_beAsAtFirst) (maxL := 1) (ret := none) (by decide) rfl (Nat.le_of_ble_eq_true rfl) ?_
  intro p e s m args below meth c ls hx hb hml hown hts hr hlocks hA hK hP hD hS hl Q hQ
  have hl : lv_has ls 1 [(0, .ref (a 0))] := hl
  have hown : s.vm.findClass RX6 = some m.cls := hown
  refine lv_aload_n hx hb dX6_beAsAtFirst_0 rfl (lv_at hl 0 rfl) ?_
  refine lv_iconst (v := 0) hx hb dX6_beAsAtFirst_1 (by decide) ?_
  refine g_put (D := (dC, dI)) (ci := 6) (v := .int 0) (ty := .int) (C := RX6) (T := TX6) (N := 6) hx hb hts inX6_beAsAtFirst_X6 tyX6 tyX6_ok nmX6 hown hK hP hD hS 0 (eD_0 a cy I A T) rfl 3 (by decide) (hts _ mX6_beAsAtFirst_0) (fun _ h9 => h9) rfl (by decide +kernel) rfl rfl (Nat.le_of_ble_eq_true rfl) dX6_beAsAtFirst_2 (pD_0_3 a cy I A T 0) (fun H locs hP hD hS => ?_)
  refine lv_aload_n hx hb dX6_beAsAtFirst_5 rfl (lv_at hl 0 rfl) ?_
  refine lv_bipush (v := 10) hx hb dX6_beAsAtFirst_6 (by decide) ?_
  refine g_put (D := (dC, dI)) (ci := 6) (v := .int 10) (ty := .int) (C := RX6) (T := TX6) (N := 6) hx hb hts inX6_beAsAtFirst_X6 tyX6 tyX6_ok nmX6 hown hK hP hD hS 0 (eD_0 a cy (upd I 0 0) A T) rfl 4 (by decide) (hts _ mX6_beAsAtFirst_1) (fun _ h9 => h9) rfl (by decide +kernel) rfl rfl (Nat.le_of_ble_eq_true rfl) dX6_beAsAtFirst_8 (pD_0_4 a cy (upd I 0 0) A T 10) (fun H locs hP hD hS => ?_)
  refine lv_aload_n hx hb dX6_beAsAtFirst_11 rfl (lv_at hl 0 rfl) ?_
  refine lv_bipush (v := 10) hx hb dX6_beAsAtFirst_12 (by decide) ?_
  refine g_put (D := (dC, dI)) (ci := 6) (v := .int 10) (ty := .int) (C := RX6) (T := TX6) (N := 6) hx hb hts inX6_beAsAtFirst_X6 tyX6 tyX6_ok nmX6 hown hK hP hD hS 0 (eD_0 a cy (upd (upd I 0 0) 1 10) A T) rfl 5 (by decide) (hts _ mX6_beAsAtFirst_2) (fun _ h9 => h9) rfl (by decide +kernel) rfl rfl (Nat.le_of_ble_eq_true rfl) dX6_beAsAtFirst_14 (pD_0_5 a cy (upd (upd I 0 0) 1 10) A T 10) (fun H locs hP hD hS => ?_)
  obtain rfl := Option.some.inj h
  exact g_vret hx hb hr hK hP hD hS hQ dX6_beAsAtFirst_17
theorem inX3_begin_X3 : ∀ w ∈ u_ws RX3 TX3 6, w ∈ wsX3_begin := by decide +kernel
theorem mX3_begin_0 : Cond.fieldLink RX3 28 "WarmBottles$Night" "hour" "I" ∈ wsX3_begin := List.mem_of_getElem? (i := 1) rfl
theorem mX3_begin_1 : Cond.fieldLink RX3 32 "WarmBottles$Night" "frost" "I" ∈ wsX3_begin := List.mem_of_getElem? (i := 2) rfl
theorem mX3_begin_2 : Cond.fieldLink RX3 12 "WarmBottles$Night" "told" "LWarmBottles$Told;" ∈ wsX3_begin := List.mem_of_getElem? (i := 3) rfl
theorem inX3_begin_X6 : ∀ w ∈ u_ws RX6 TX6 6, w ∈ wsX3_begin := by decide +kernel
theorem mX3_begin_3 : Cond.fieldLink RX3 35 "WarmBottles$Told" "kettle" "I" ∈ wsX3_begin := List.mem_of_getElem? (i := 4) rfl
theorem mX3_begin_4 : Cond.fieldLink RX3 38 "WarmBottles$Night" "kettle" "I" ∈ wsX3_begin := List.mem_of_getElem? (i := 5) rfl
theorem mX3_begin_5 : Cond.fieldLink RX3 18 "WarmBottles$Night" "warm" "[I" ∈ wsX3_begin := List.mem_of_getElem? (i := 6) rfl
theorem mX3_begin_6 : Cond.fieldLink RX3 39 "WarmBottles$Told" "warm" "[I" ∈ wsX3_begin := List.mem_of_getElem? (i := 7) rfl
theorem mX3_begin_7 : Cond.fieldLink RX3 22 "WarmBottles$Night" "bed" "[I" ∈ wsX3_begin := List.mem_of_getElem? (i := 8) rfl
def rm_X3_begin_N : Room := { frames := 3, cells := 0, slots := 0, locals := 210 }
def f_X3_begin_N_L23 (N : Nat) (k_23 : Int32 → (Nat → Nat → Int32) → Option ((Nat → Int32) × (Nat → Nat → Int32))) (I_23 : (Nat → Int32)) : Nat → Int32 → (Nat → Nat → Int32) → Option ((Nat → Int32) × (Nat → Nat → Int32))
  | 0, _, _ => none
  | n_23 + 1, x1, A_23 => (if 6 ≤ x1 then (k_23 x1 A_23) else (if x1 < 0 ∨ 6 ≤ x1.toNatClampNeg then none else (f_X3_begin_N_L23 N k_23 I_23 n_23 (x1 + 1) (va_up (va_up A_23 3 (upd (A_23 3) x1.toNatClampNeg ((A_23 0) x1.toNatClampNeg))) 4 (upd (A_23 4) x1.toNatClampNeg x1)))))
def f_X3_begin_N (N : Nat) (I : Nat → Int32) (A : Nat → Nat → Int32)  : Option ((Nat → Int32) × (Nat → Nat → Int32)) := (f_X3_begin_N_L23 N (fun (x1 : Int32) (A_23 : (Nat → Nat → Int32)) => some ((upd (upd (upd I 0 0) 1 0) 2 (I 4)), A_23)) (upd (upd (upd I 0 0) 1 0) 2 (I 4)) N 0 A)
set_option maxHeartbeats 4000000 in
set_option maxRecDepth 100000 in
theorem c_X3_begin_N (l : Launch) (dC : Nat → ClassId) (dI : Nat → Nat → Nat) (a : Nat → Nat) (cy : Nat → ClassId) (N : Nat) (I : Nat → Int32) (A : Nat → Nat → Int32) (T : Int64)  (res : (Nat → Int32) × (Nat → Nat → Int32)) (h : f_X3_begin_N N I A  = some res) (sz : Nat) : Met l yX3_begin wsX3_begin rm_X3_begin_N (g_Pre (dC, dI) cy [.ref (a 0)] (wN a cy I A T) sz) (g_Qv (dC, dI) cy (wN a cy I A T) (wN a cy res.1 res.2 T) sz) 0 0 (va_A (wN a cy I A T) sz) := by
  unfold f_X3_begin_N at h
  refine g_entry _ _ _ _ _ _ (cc := cX3_begin) (maxL := 2) (ret := none) (by decide) rfl (Nat.le_of_ble_eq_true rfl) ?_
  intro p e s m args below meth c ls hx hb hml hown hts hr hlocks hA hK hP hD hS hl Q hQ
  have hl : lv_has ls 2 [(0, .ref (a 0))] := hl
  have hown : s.vm.findClass RX3 = some m.cls := hown
  refine lv_aload_n hx hb dX3_begin_0 rfl (lv_at hl 0 rfl) ?_
  refine lv_iconst (v := 0) hx hb dX3_begin_1 (by decide) ?_
  refine g_put (D := (dC, dI)) (ci := 3) (v := .int 0) (ty := .int) (C := RX3) (T := TX3) (N := 6) hx hb hts inX3_begin_X3 tyX3 tyX3_ok nmX3 hown hK hP hD hS 0 (eN_0 a cy I A T) rfl 3 (by decide) (hts _ mX3_begin_0) (fun _ h9 => h9) rfl (by decide +kernel) rfl rfl (Nat.le_of_ble_eq_true rfl) dX3_begin_2 (pN_0_3 a cy I A T 0) (fun H locs hP hD hS => ?_)
  refine lv_aload_n hx hb dX3_begin_5 rfl (lv_at hl 0 rfl) ?_
  refine lv_iconst (v := 0) hx hb dX3_begin_6 (by decide) ?_
  refine g_put (D := (dC, dI)) (ci := 3) (v := .int 0) (ty := .int) (C := RX3) (T := TX3) (N := 6) hx hb hts inX3_begin_X3 tyX3 tyX3_ok nmX3 hown hK hP hD hS 0 (eN_0 a cy (upd I 0 0) A T) rfl 4 (by decide) (hts _ mX3_begin_1) (fun _ h9 => h9) rfl (by decide +kernel) rfl rfl (Nat.le_of_ble_eq_true rfl) dX3_begin_7 (pN_0_4 a cy (upd I 0 0) A T 0) (fun H locs hP hD hS => ?_)
  refine lv_aload_n hx hb dX3_begin_10 rfl (lv_at hl 0 rfl) ?_
  refine lv_aload_n hx hb dX3_begin_11 rfl (lv_at hl 0 rfl) ?_
  refine va_get (D := (dC, dI)) (ci := 3) (v := .ref (a 1)) (C := RX3) (T := TX3) (N := 6) hx hb hts inX3_begin_X3 hown hK hP 0 (eN_0 a cy (upd (upd I 0 0) 1 0) A T) rfl 0 (by decide) (hts _ mX3_begin_2) (fun _ h9 => h9) rfl dX3_begin_12 ?_
  refine va_get (D := (dC, dI)) (ci := 6) (v := .int (I 4)) (C := RX6) (T := TX6) (N := 6) hx hb hts inX3_begin_X6 hown hK hP 1 (eN_1 a cy (upd (upd I 0 0) 1 0) A T) rfl 4 (by decide) (hts _ mX3_begin_3) (fun _ h9 => h9) rfl dX3_begin_15 ?_
  refine g_put (D := (dC, dI)) (ci := 3) (v := .int (I 4)) (ty := .int) (C := RX3) (T := TX3) (N := 6) hx hb hts inX3_begin_X3 tyX3 tyX3_ok nmX3 hown hK hP hD hS 0 (eN_0 a cy (upd (upd I 0 0) 1 0) A T) rfl 5 (by decide) (hts _ mX3_begin_4) (fun _ h9 => h9) rfl (by decide +kernel) rfl rfl (Nat.le_of_ble_eq_true rfl) dX3_begin_18 (pN_0_5 a cy (upd (upd I 0 0) 1 0) A T (I 4)) (fun H locs hP hD hS => ?_)
  refine lv_iconst (v := 0) hx hb dX3_begin_21 (by decide) ?_
  refine lv_istore_n (lv' := [(1, .int 0), (0, .ref (a 0))]) hx hb dX3_begin_22 rfl hl (by decide) rfl (fun ls hl => ?_)
  have lp23 : ∀ (I_23 : (Nat → Int32)) (k_23 : Int32 → (Nat → Nat → Int32) → Option ((Nat → Int32) × (Nat → Nat → Int32))), (∀ (x1 : Int32) (A_23 : (Nat → Nat → Int32)), k_23 x1 A_23 = some res → g_At (dC, dI) p l e (headSpec wsX3_begin rm_X3_begin_N).room s m args below meth c Q (wN a cy I A T) sz 2 (wN a cy I_23 A_23 T) [] 57 []) → ∀ (n_23 : Nat) (x1 : Int32) (A_23 : (Nat → Nat → Int32)), f_X3_begin_N_L23 N k_23 I_23 n_23 x1 A_23 = some res → g_At (dC, dI) p l e (headSpec wsX3_begin rm_X3_begin_N).room s m args below meth c Q (wN a cy I A T) sz 2 (wN a cy I_23 A_23 T) [(0, .ref (a 0)), (1, .int x1)] 23 [] := by
    intro I_23 k_23 hk_23 n_23
    induction n_23 with
    | zero =>
      intro x1 A_23 h
      exact absurd h (by rw [f_X3_begin_N_L23]; exact fun q => by cases q)
    | succ n_23 ih23 =>
      intro x1 A_23 h H locs hP hD hS ls hl
      rw [f_X3_begin_N_L23] at h
      refine lv_iload_n hx hb dX3_begin_23 rfl (lv_at hl 1 rfl) ?_
      refine lv_bipush (v := 6) hx hb dX3_begin_24 (by decide) ?_
      refine lv_icmp_ge (tgt := 57) hx hb dX3_begin_26 (by decide) (fun c1 => ?_) (fun c1 => ?_)
      · replace h := ite_t h c1
        exact hk_23 _ _ h _ _ hP hD hS _ (lv_sub hl [] rfl)
      · replace h := ite_f h c1
        refine lv_aload_n hx hb dX3_begin_29 rfl (lv_at hl 0 rfl) ?_
        refine va_get (D := (dC, dI)) (ci := 3) (v := .ref (a 5)) (C := RX3) (T := TX3) (N := 6) hx hb hts inX3_begin_X3 hown hK hP 0 (eN_0 a cy I_23 A_23 T) rfl 1 (by decide) (hts _ mX3_begin_5) (fun _ h9 => h9) rfl dX3_begin_30 ?_
        refine lv_iload_n hx hb dX3_begin_33 rfl (lv_at hl 1 rfl) ?_
        refine lv_aload_n hx hb dX3_begin_34 rfl (lv_at hl 0 rfl) ?_
        refine va_get (D := (dC, dI)) (ci := 3) (v := .ref (a 1)) (C := RX3) (T := TX3) (N := 6) hx hb hts inX3_begin_X3 hown hK hP 0 (eN_0 a cy I_23 A_23 T) rfl 0 (by decide) (hts _ mX3_begin_2) (fun _ h9 => h9) rfl dX3_begin_35 ?_
        refine va_get (D := (dC, dI)) (ci := 6) (v := .ref (a 2)) (C := RX6) (T := TX6) (N := 6) hx hb hts inX3_begin_X6 hown hK hP 1 (eN_1 a cy I_23 A_23 T) rfl 0 (by decide) (hts _ mX3_begin_6) (fun _ h9 => h9) rfl dX3_begin_38 ?_
        refine lv_iload_n hx hb dX3_begin_41 rfl (lv_at hl 1 rfl) ?_
        obtain ⟨i2, h⟩ := inb_some h
        refine g_iald (f := (A_23 0)) (j := x1.toNatClampNeg) hx hb hK hP 2 (eN_2 a cy I_23 A_23 T) i2 rfl dX3_begin_42 ?_
        refine g_iast (f := (A_23 3)) (j := x1.toNatClampNeg) hx hb hK hP hD hS 5 (eN_5 a cy I_23 A_23 T) i2 rfl dX3_begin_43 (sN_5 a cy I_23 A_23 T (upd (A_23 3) x1.toNatClampNeg ((A_23 0) x1.toNatClampNeg))) (fun H locs hP hD hS => ?_)
        refine lv_aload_n hx hb dX3_begin_44 rfl (lv_at hl 0 rfl) ?_
        refine va_get (D := (dC, dI)) (ci := 3) (v := .ref (a 6)) (C := RX3) (T := TX3) (N := 6) hx hb hts inX3_begin_X3 hown hK hP 0 (eN_0 a cy I_23 (va_up A_23 3 (upd (A_23 3) x1.toNatClampNeg ((A_23 0) x1.toNatClampNeg))) T) rfl 2 (by decide) (hts _ mX3_begin_7) (fun _ h9 => h9) rfl dX3_begin_45 ?_
        refine lv_iload_n hx hb dX3_begin_48 rfl (lv_at hl 1 rfl) ?_
        refine lv_iload_n hx hb dX3_begin_49 rfl (lv_at hl 1 rfl) ?_
        refine g_iast (f := (A_23 4)) (j := x1.toNatClampNeg) hx hb hK hP hD hS 6 (eN_6 a cy I_23 (va_up A_23 3 (upd (A_23 3) x1.toNatClampNeg ((A_23 0) x1.toNatClampNeg))) T) i2 rfl dX3_begin_50 (sN_6 a cy I_23 (va_up A_23 3 (upd (A_23 3) x1.toNatClampNeg ((A_23 0) x1.toNatClampNeg))) T (upd (A_23 4) x1.toNatClampNeg x1)) (fun H locs hP hD hS => ?_)
        refine lv_iinc (v := (x1 + 1)) (lv' := [(1, .int (x1 + 1)), (0, .ref (a 0))]) hx hb dX3_begin_51 hl (k := 1) rfl rfl (by decide) rfl (fun ls hl => ?_)
        refine lv_goto (tgt := 23) hx hb dX3_begin_54 (by decide) ?_
        exact ih23 _ _ h _ _ hP hD hS _ (lv_sub hl [1, 0] rfl)
  refine lp23 _ _ ?_ N _ _ h _ _ hP hD hS _ (lv_sub hl [1, 0] rfl)
  intro x1 A_23 h H locs hP hD hS ls hl
  obtain rfl := Option.some.inj h
  exact g_vret hx hb hr hK hP hD hS hQ dX3_begin_57
theorem inX5_append_X5 : ∀ w ∈ u_ws RX5 TX5 8, w ∈ wsX5_append := by decide +kernel
theorem mX5_append_0 : Cond.fieldLink RX5 15 "WarmBottles$Text" "length" "I" ∈ wsX5_append := List.mem_of_getElem? (i := 1) rfl
theorem mX5_append_1 : Cond.fieldLink RX5 9 "WarmBottles$Text" "letters" "[C" ∈ wsX5_append := List.mem_of_getElem? (i := 2) rfl
def rm_X5_append_C : Room := { frames := 3, cells := 0, slots := 0, locals := 210 }
def f_X5_append_C (N : Nat) (I : Nat → Int32) (A : Nat → Nat → Int32) (p1 : Int32) : Option ((Nat → Int32) × (Nat → Nat → Int32)) := (if 120 ≤ (I 0) then some (I, A) else (if (I 0) < 0 ∨ 120 ≤ ((I 0)).toNatClampNeg then none else some ((upd I 0 ((I 0) + 1)), (va_up A 0 (upd (A 0) ((I 0)).toNatClampNeg (vp_nar .char p1))))))
set_option maxHeartbeats 4000000 in
set_option maxRecDepth 100000 in
theorem c_X5_append_C (l : Launch) (dC : Nat → ClassId) (dI : Nat → Nat → Nat) (a : Nat → Nat) (cy : Nat → ClassId) (N : Nat) (I : Nat → Int32) (A : Nat → Nat → Int32) (T : Int64) (p1 : Int32) (res : (Nat → Int32) × (Nat → Nat → Int32)) (h : f_X5_append_C N I A p1 = some res) (sz : Nat) : Met l yX5_append wsX5_append rm_X5_append_C (g_Pre (dC, dI) cy [.ref (a 1), .int p1] (wC a cy I A T) sz) (g_Qv (dC, dI) cy (wC a cy I A T) (wC a cy res.1 res.2 T) sz) 0 0 (va_A (wC a cy I A T) sz) := by
  unfold f_X5_append_C at h
  refine g_entry _ _ _ _ _ _ (cc := cX5_append) (maxL := 2) (ret := none) (by decide) rfl (Nat.le_of_ble_eq_true rfl) ?_
  intro p e s m args below meth c ls hx hb hml hown hts hr hlocks hA hK hP hD hS hl Q hQ
  have hl : lv_has ls 2 [(0, .ref (a 1)), (1, .int p1)] := hl
  have hown : s.vm.findClass RX5 = some m.cls := hown
  refine lv_aload_n hx hb dX5_append_0 rfl (lv_at hl 0 rfl) ?_
  refine va_get (D := (dC, dI)) (ci := 5) (v := .int (I 0)) (C := RX5) (T := TX5) (N := 8) hx hb hts inX5_append_X5 hown hK hP 1 (eC_1 a cy I A T) rfl 1 (by decide) (hts _ mX5_append_0) (fun _ h9 => h9) rfl dX5_append_1 ?_
  refine lv_aload_n hx hb dX5_append_4 rfl (lv_at hl 0 rfl) ?_
  refine va_get (D := (dC, dI)) (ci := 5) (v := .ref (a 2)) (C := RX5) (T := TX5) (N := 8) hx hb hts inX5_append_X5 hown hK hP 1 (eC_1 a cy I A T) rfl 0 (by decide) (hts _ mX5_append_1) (fun _ h9 => h9) rfl dX5_append_5 ?_
  refine va_alen (v := 120) hx hb hK hP 2 1 (eC_2 a cy I A T) rfl rfl dX5_append_8 ?_
  refine lv_icmp_ge (tgt := 32) hx hb dX5_append_9 (by decide) (fun c1 => ?_) (fun c1 => ?_)
  · replace h := ite_t h c1
    obtain rfl := Option.some.inj h
    exact g_vret hx hb hr hK hP hD hS hQ dX5_append_32
  · replace h := ite_f h c1
    refine lv_aload_n hx hb dX5_append_12 rfl (lv_at hl 0 rfl) ?_
    refine va_get (D := (dC, dI)) (ci := 5) (v := .ref (a 2)) (C := RX5) (T := TX5) (N := 8) hx hb hts inX5_append_X5 hown hK hP 1 (eC_1 a cy I A T) rfl 0 (by decide) (hts _ mX5_append_1) (fun _ h9 => h9) rfl dX5_append_13 ?_
    refine lv_aload_n hx hb dX5_append_16 rfl (lv_at hl 0 rfl) ?_
    refine va_get (D := (dC, dI)) (ci := 5) (v := .int (I 0)) (C := RX5) (T := TX5) (N := 8) hx hb hts inX5_append_X5 hown hK hP 1 (eC_1 a cy I A T) rfl 1 (by decide) (hts _ mX5_append_0) (fun _ h9 => h9) rfl dX5_append_17 ?_
    refine lv_iload_n hx hb dX5_append_20 rfl (lv_at hl 1 rfl) ?_
    obtain ⟨i2, h⟩ := inb_some h
    refine g_cast (f := (A 0)) (j := ((I 0)).toNatClampNeg) hx hb hK hP hD hS 2 (eC_2 a cy I A T) i2 rfl dX5_append_21 (sC_2 a cy I A T (upd (A 0) ((I 0)).toNatClampNeg (vp_nar .char p1))) (fun H locs hP hD hS => ?_)
    refine lv_aload_n hx hb dX5_append_22 rfl (lv_at hl 0 rfl) ?_
    refine lv_dup hx hb dX5_append_23 rfl ?_
    refine va_get (D := (dC, dI)) (ci := 5) (v := .int (I 0)) (C := RX5) (T := TX5) (N := 8) hx hb hts inX5_append_X5 hown hK hP 1 (eC_1 a cy I (va_up A 0 (upd (A 0) ((I 0)).toNatClampNeg (vp_nar .char p1))) T) rfl 1 (by decide) (hts _ mX5_append_0) (fun _ h9 => h9) rfl dX5_append_24 ?_
    refine lv_iconst (v := 1) hx hb dX5_append_27 (by decide) ?_
    refine lv_iadd hx hb dX5_append_28 ?_
    refine g_put (D := (dC, dI)) (ci := 5) (v := .int ((I 0) + 1)) (ty := .int) (C := RX5) (T := TX5) (N := 8) hx hb hts inX5_append_X5 tyX5 tyX5_ok nmX5 hown hK hP hD hS 1 (eC_1 a cy I (va_up A 0 (upd (A 0) ((I 0)).toNatClampNeg (vp_nar .char p1))) T) rfl 1 (by decide) (hts _ mX5_append_0) (fun _ h9 => h9) rfl (by decide +kernel) rfl rfl (Nat.le_of_ble_eq_true rfl) dX5_append_29 (pC_1_1 a cy I (va_up A 0 (upd (A 0) ((I 0)).toNatClampNeg (vp_nar .char p1))) T ((I 0) + 1)) (fun H locs hP hD hS => ?_)
    obtain rfl := Option.some.inj h
    exact g_vret hx hb hr hK hP hD hS hQ dX5_append_32
theorem inX7_type_X7 : ∀ w ∈ u_ws RX7 TX7 9, w ∈ wsX7_type := by decide +kernel
theorem mX7_type_0 : Cond.fieldLink RX7 10 "WarmBottles" "text" "LWarmBottles$Text;" ∈ wsX7_type := List.mem_of_getElem? (i := 1) rfl
theorem inX7_type_X5 : ∀ w ∈ u_ws RX5 TX5 8, w ∈ wsX7_type := by decide +kernel
theorem mX7_type_1 : Cond.fieldLink RX7 64 "WarmBottles$Text" "length" "I" ∈ wsX7_type := List.mem_of_getElem? (i := 2) rfl
def rm_X7_type_C : Room := { frames := 5, cells := 0, slots := 0, locals := 270 }
def f_X7_type_C (N : Nat) (I : Nat → Int32) (A : Nat → Nat → Int32) (p1 : Int32) : Option (Int32 × (Nat → Int32) × (Nat → Nat → Int32)) := (if p1 < 0 then some ((-1), I, A) else (if p1 ≤ 255 then (if (I 0) < 120 then (Option.bind (f_X5_append_C N I A (p1.toUInt32 % 65536).toInt32) (fun r4 => some ((r4.1 0), r4.1, r4.2))) else some ((-3), I, A)) else some ((-1), I, A)))
set_option maxHeartbeats 4000000 in
set_option maxRecDepth 100000 in
theorem c_X7_type_C (l : Launch) (dC : Nat → ClassId) (dI : Nat → Nat → Nat) (a : Nat → Nat) (cy : Nat → ClassId) (N : Nat) (I : Nat → Int32) (A : Nat → Nat → Int32) (T : Int64) (p1 : Int32) (res : Int32 × (Nat → Int32) × (Nat → Nat → Int32)) (h : f_X7_type_C N I A p1 = some res) (sz : Nat) : Met l yX7_type wsX7_type rm_X7_type_C (g_Pre (dC, dI) cy [.ref (a 0), .int p1] (wC a cy I A T) sz) (g_Qi (dC, dI) cy res.1 (wC a cy I A T) (wC a cy res.2.1 res.2.2 T) sz) 0 0 (va_A (wC a cy I A T) sz) := by
  unfold f_X7_type_C at h
  refine g_entry _ _ _ _ _ _ (cc := cX7_type) (maxL := 2) (ret := (some .int)) (by decide) rfl (Nat.le_of_ble_eq_true rfl) ?_
  intro p e s m args below meth c ls hx hb hml hown hts hr hlocks hA hK hP hD hS hl Q hQ
  have hl : lv_has ls 2 [(0, .ref (a 0)), (1, .int p1)] := hl
  have hown : s.vm.findClass RX7 = some m.cls := hown
  refine lv_iload_n hx hb dX7_type_0 rfl (lv_at hl 1 rfl) ?_
  refine lv_if_lt (tgt := 11) hx hb dX7_type_1 (by decide) (fun c1 => ?_) (fun c1 => ?_)
  · replace h := ite_t h c1
    refine lv_iconst (v := (-1)) hx hb dX7_type_11 (by decide) ?_
    obtain rfl := Option.some.inj h
    exact g_iret hx hb hr hK hP hD hS hQ dX7_type_12
  · replace h := ite_f h c1
    refine lv_iload_n hx hb dX7_type_4 rfl (lv_at hl 1 rfl) ?_
    refine lv_sipush (v := 255) hx hb dX7_type_5 (by decide) ?_
    refine lv_icmp_le (tgt := 13) hx hb dX7_type_8 (by decide) (fun c2 => ?_) (fun c2 => ?_)
    · replace h := ite_t h c2
      refine lv_aload_n hx hb dX7_type_13 rfl (lv_at hl 0 rfl) ?_
      refine va_get (D := (dC, dI)) (ci := 7) (v := .ref (a 1)) (C := RX7) (T := TX7) (N := 9) hx hb hts inX7_type_X7 hown hK hP 0 (eC_0 a cy I A T) rfl 0 (by decide) (hts _ mX7_type_0) (fun _ h9 => h9) rfl dX7_type_14 ?_
      refine va_get (D := (dC, dI)) (ci := 5) (v := .int (I 0)) (C := RX5) (T := TX5) (N := 8) hx hb hts inX7_type_X5 hown hK hP 1 (eC_1 a cy I A T) rfl 1 (by decide) (hts _ mX7_type_1) (fun _ h9 => h9) rfl dX7_type_17 ?_
      refine lv_bipush (v := 120) hx hb dX7_type_20 (by decide) ?_
      refine lv_icmp_lt (tgt := 28) hx hb dX7_type_22 (by decide) (fun c3 => ?_) (fun c3 => ?_)
      · replace h := ite_t h c3
        refine lv_aload_n hx hb dX7_type_28 rfl (lv_at hl 0 rfl) ?_
        refine va_get (D := (dC, dI)) (ci := 7) (v := .ref (a 1)) (C := RX7) (T := TX7) (N := 9) hx hb hts inX7_type_X7 hown hK hP 0 (eC_0 a cy I A T) rfl 0 (by decide) (hts _ mX7_type_0) (fun _ h9 => h9) rfl dX7_type_29 ?_
        refine lv_iload_n hx hb dX7_type_32 rfl (lv_at hl 1 rfl) ?_
        refine lv_i2c (v := (p1.toUInt32 % 65536).toInt32) hx hb dX7_type_33 rfl ?_
        obtain ⟨r4, hr4, h⟩ := bnd_some h
        refine g_callVv (As := [.int (p1.toUInt32 % 65536).toInt32]) (rest := []) (ci := 5) (q0 := 1) hx hb hml hown hts (c_X5_append_C l dC dI a cy N I A T (p1.toUInt32 % 65536).toInt32 r4 hr4) (cwV 1 hts gX7_type_X5_append rfl rfl rfl (by decide +kernel) ⟨Nat.le_of_ble_eq_true rfl, Nat.le_of_ble_eq_true rfl⟩) hK hP hD hS hA rfl (eC_1 a cy I A T) rfl rfl hl.1 rfl (Nat.le_of_ble_eq_true rfl) dX7_type_34 (fun H locs hP hD hS => ?_)
        refine lv_aload_n hx hb dX7_type_37 rfl (lv_at hl 0 rfl) ?_
        refine va_get (D := (dC, dI)) (ci := 7) (v := .ref (a 1)) (C := RX7) (T := TX7) (N := 9) hx hb hts inX7_type_X7 hown hK hP 0 (eC_0 a cy r4.1 r4.2 T) rfl 0 (by decide) (hts _ mX7_type_0) (fun _ h9 => h9) rfl dX7_type_38 ?_
        refine va_get (D := (dC, dI)) (ci := 5) (v := .int (r4.1 0)) (C := RX5) (T := TX5) (N := 8) hx hb hts inX7_type_X5 hown hK hP 1 (eC_1 a cy r4.1 r4.2 T) rfl 1 (by decide) (hts _ mX7_type_1) (fun _ h9 => h9) rfl dX7_type_41 ?_
        obtain rfl := Option.some.inj h
        exact g_iret hx hb hr hK hP hD hS hQ dX7_type_44
      · replace h := ite_f h c3
        refine lv_bipush (v := (-3)) hx hb dX7_type_25 (by decide) ?_
        obtain rfl := Option.some.inj h
        exact g_iret hx hb hr hK hP hD hS hQ dX7_type_27
    · replace h := ite_f h c2
      refine lv_iconst (v := (-1)) hx hb dX7_type_11 (by decide) ?_
      obtain rfl := Option.some.inj h
      exact g_iret hx hb hr hK hP hD hS hQ dX7_type_12
theorem inX7_clear_X7 : ∀ w ∈ u_ws RX7 TX7 9, w ∈ wsX7_clear := by decide +kernel
theorem mX7_clear_0 : Cond.fieldLink RX7 10 "WarmBottles" "text" "LWarmBottles$Text;" ∈ wsX7_clear := List.mem_of_getElem? (i := 1) rfl
theorem inX7_clear_X5 : ∀ w ∈ u_ws RX5 TX5 8, w ∈ wsX7_clear := by decide +kernel
theorem mX7_clear_1 : Cond.fieldLink RX7 64 "WarmBottles$Text" "length" "I" ∈ wsX7_clear := List.mem_of_getElem? (i := 2) rfl
def rm_X7_clear_C : Room := { frames := 3, cells := 0, slots := 0, locals := 210 }
def f_X7_clear_C (N : Nat) (I : Nat → Int32) (A : Nat → Nat → Int32)  : Option (Int32 × (Nat → Int32)) := some ((I 0), (upd I 0 0))
set_option maxHeartbeats 4000000 in
set_option maxRecDepth 100000 in
theorem c_X7_clear_C (l : Launch) (dC : Nat → ClassId) (dI : Nat → Nat → Nat) (a : Nat → Nat) (cy : Nat → ClassId) (N : Nat) (I : Nat → Int32) (A : Nat → Nat → Int32) (T : Int64)  (res : Int32 × (Nat → Int32)) (h : f_X7_clear_C N I A  = some res) (sz : Nat) : Met l yX7_clear wsX7_clear rm_X7_clear_C (g_Pre (dC, dI) cy [.ref (a 0)] (wC a cy I A T) sz) (g_Qi (dC, dI) cy res.1 (wC a cy I A T) (wC a cy res.2 A T) sz) 0 0 (va_A (wC a cy I A T) sz) := by
  unfold f_X7_clear_C at h
  refine g_entry _ _ _ _ _ _ (cc := cX7_clear) (maxL := 2) (ret := (some .int)) (by decide) rfl (Nat.le_of_ble_eq_true rfl) ?_
  intro p e s m args below meth c ls hx hb hml hown hts hr hlocks hA hK hP hD hS hl Q hQ
  have hl : lv_has ls 2 [(0, .ref (a 0))] := hl
  have hown : s.vm.findClass RX7 = some m.cls := hown
  refine lv_aload_n hx hb dX7_clear_0 rfl (lv_at hl 0 rfl) ?_
  refine va_get (D := (dC, dI)) (ci := 7) (v := .ref (a 1)) (C := RX7) (T := TX7) (N := 9) hx hb hts inX7_clear_X7 hown hK hP 0 (eC_0 a cy I A T) rfl 0 (by decide) (hts _ mX7_clear_0) (fun _ h9 => h9) rfl dX7_clear_1 ?_
  refine va_get (D := (dC, dI)) (ci := 5) (v := .int (I 0)) (C := RX5) (T := TX5) (N := 8) hx hb hts inX7_clear_X5 hown hK hP 1 (eC_1 a cy I A T) rfl 1 (by decide) (hts _ mX7_clear_1) (fun _ h9 => h9) rfl dX7_clear_4 ?_
  refine lv_istore_n (lv' := [(1, .int (I 0)), (0, .ref (a 0))]) hx hb dX7_clear_7 rfl hl (by decide) rfl (fun ls hl => ?_)
  refine lv_aload_n hx hb dX7_clear_8 rfl (lv_at hl 1 rfl) ?_
  refine va_get (D := (dC, dI)) (ci := 7) (v := .ref (a 1)) (C := RX7) (T := TX7) (N := 9) hx hb hts inX7_clear_X7 hown hK hP 0 (eC_0 a cy I A T) rfl 0 (by decide) (hts _ mX7_clear_0) (fun _ h9 => h9) rfl dX7_clear_9 ?_
  refine lv_iconst (v := 0) hx hb dX7_clear_12 (by decide) ?_
  refine g_put (D := (dC, dI)) (ci := 5) (v := .int 0) (ty := .int) (C := RX5) (T := TX5) (N := 8) hx hb hts inX7_clear_X5 tyX5 tyX5_ok nmX5 hown hK hP hD hS 1 (eC_1 a cy I A T) rfl 1 (by decide) (hts _ mX7_clear_1) (fun _ h9 => h9) rfl (by decide +kernel) rfl rfl (Nat.le_of_ble_eq_true rfl) dX7_clear_13 (pC_1_1 a cy I A T 0) (fun H locs hP hD hS => ?_)
  refine lv_iload_n hx hb dX7_clear_16 rfl (lv_at hl 0 rfl) ?_
  obtain rfl := Option.some.inj h
  exact g_iret hx hb hr hK hP hD hS hQ dX7_clear_17
def rm_X6_beAsAtFirst_C : Room := { frames := 3, cells := 0, slots := 0, locals := 210 }
def f_X6_beAsAtFirst_C (N : Nat) (I : Nat → Int32) (A : Nat → Nat → Int32)  : Option ((Nat → Int32)) := some (upd (upd (upd I 7 0) 8 10) 9 10)
set_option maxHeartbeats 4000000 in
set_option maxRecDepth 100000 in
theorem c_X6_beAsAtFirst_C (l : Launch) (dC : Nat → ClassId) (dI : Nat → Nat → Nat) (a : Nat → Nat) (cy : Nat → ClassId) (N : Nat) (I : Nat → Int32) (A : Nat → Nat → Int32) (T : Int64)  (res : (Nat → Int32)) (h : f_X6_beAsAtFirst_C N I A  = some res) (sz : Nat) : Met l yX6_beAsAtFirst wsX6_beAsAtFirst rm_X6_beAsAtFirst_C (g_Pre (dC, dI) cy [.ref (a 3)] (wC a cy I A T) sz) (g_Qv (dC, dI) cy (wC a cy I A T) (wC a cy res A T) sz) 0 0 (va_A (wC a cy I A T) sz) := by
  unfold f_X6_beAsAtFirst_C at h
  refine g_entry _ _ _ _ _ _ (cc := cX6_beAsAtFirst) (maxL := 1) (ret := none) (by decide) rfl (Nat.le_of_ble_eq_true rfl) ?_
  intro p e s m args below meth c ls hx hb hml hown hts hr hlocks hA hK hP hD hS hl Q hQ
  have hl : lv_has ls 1 [(0, .ref (a 3))] := hl
  have hown : s.vm.findClass RX6 = some m.cls := hown
  refine lv_aload_n hx hb dX6_beAsAtFirst_0 rfl (lv_at hl 0 rfl) ?_
  refine lv_iconst (v := 0) hx hb dX6_beAsAtFirst_1 (by decide) ?_
  refine g_put (D := (dC, dI)) (ci := 6) (v := .int 0) (ty := .int) (C := RX6) (T := TX6) (N := 6) hx hb hts inX6_beAsAtFirst_X6 tyX6 tyX6_ok nmX6 hown hK hP hD hS 3 (eC_3 a cy I A T) rfl 3 (by decide) (hts _ mX6_beAsAtFirst_0) (fun _ h9 => h9) rfl (by decide +kernel) rfl rfl (Nat.le_of_ble_eq_true rfl) dX6_beAsAtFirst_2 (pC_3_3 a cy I A T 0) (fun H locs hP hD hS => ?_)
  refine lv_aload_n hx hb dX6_beAsAtFirst_5 rfl (lv_at hl 0 rfl) ?_
  refine lv_bipush (v := 10) hx hb dX6_beAsAtFirst_6 (by decide) ?_
  refine g_put (D := (dC, dI)) (ci := 6) (v := .int 10) (ty := .int) (C := RX6) (T := TX6) (N := 6) hx hb hts inX6_beAsAtFirst_X6 tyX6 tyX6_ok nmX6 hown hK hP hD hS 3 (eC_3 a cy (upd I 7 0) A T) rfl 4 (by decide) (hts _ mX6_beAsAtFirst_1) (fun _ h9 => h9) rfl (by decide +kernel) rfl rfl (Nat.le_of_ble_eq_true rfl) dX6_beAsAtFirst_8 (pC_3_4 a cy (upd I 7 0) A T 10) (fun H locs hP hD hS => ?_)
  refine lv_aload_n hx hb dX6_beAsAtFirst_11 rfl (lv_at hl 0 rfl) ?_
  refine lv_bipush (v := 10) hx hb dX6_beAsAtFirst_12 (by decide) ?_
  refine g_put (D := (dC, dI)) (ci := 6) (v := .int 10) (ty := .int) (C := RX6) (T := TX6) (N := 6) hx hb hts inX6_beAsAtFirst_X6 tyX6 tyX6_ok nmX6 hown hK hP hD hS 3 (eC_3 a cy (upd (upd I 7 0) 8 10) A T) rfl 5 (by decide) (hts _ mX6_beAsAtFirst_2) (fun _ h9 => h9) rfl (by decide +kernel) rfl rfl (Nat.le_of_ble_eq_true rfl) dX6_beAsAtFirst_14 (pC_3_5 a cy (upd (upd I 7 0) 8 10) A T 10) (fun H locs hP hD hS => ?_)
  obtain rfl := Option.some.inj h
  exact g_vret hx hb hr hK hP hD hS hQ dX6_beAsAtFirst_17
def rm_X5_isDigit_C : Room := { frames := 3, cells := 0, slots := 0, locals := 210 }
def f_X5_isDigit_C (N : Nat) (I : Nat → Int32) (A : Nat → Nat → Int32) (p0 : Int32) : Option (Int32) := (if p0 < 48 then some 0 else (if 57 < p0 then some 0 else some 1))
set_option maxHeartbeats 4000000 in
set_option maxRecDepth 100000 in
theorem c_X5_isDigit_C (l : Launch) (dC : Nat → ClassId) (dI : Nat → Nat → Nat) (a : Nat → Nat) (cy : Nat → ClassId) (N : Nat) (I : Nat → Int32) (A : Nat → Nat → Int32) (T : Int64) (p0 : Int32) (res : Int32) (h : f_X5_isDigit_C N I A p0 = some res) (sz : Nat) : Met l yX5_isDigit wsX5_isDigit rm_X5_isDigit_C (g_Pre (dC, dI) cy [.int p0] (wC a cy I A T) sz) (g_Qi (dC, dI) cy res (wC a cy I A T) (wC a cy I A T) sz) 0 0 (va_A (wC a cy I A T) sz) := by
  unfold f_X5_isDigit_C at h
  refine g_entry _ _ _ _ _ _ (cc := cX5_isDigit) (maxL := 1) (ret := (some .boolean)) (by decide) rfl (Nat.le_of_ble_eq_true rfl) ?_
  intro p e s m args below meth c ls hx hb hml hown hts hr hlocks hA hK hP hD hS hl Q hQ
  have hl : lv_has ls 1 [(0, .int p0)] := hl
  have hown : s.vm.findClass RX5 = some m.cls := hown
  refine lv_iload_n hx hb dX5_isDigit_0 rfl (lv_at hl 0 rfl) ?_
  refine lv_bipush (v := 48) hx hb dX5_isDigit_1 (by decide) ?_
  refine lv_icmp_lt (tgt := 16) hx hb dX5_isDigit_3 (by decide) (fun c1 => ?_) (fun c1 => ?_)
  · replace h := ite_t h c1
    refine lv_iconst (v := 0) hx hb dX5_isDigit_16 (by decide) ?_
    obtain rfl := Option.some.inj h
    exact g_zret hx hb hr (by decide) hK hP hD hS hQ dX5_isDigit_17
  · replace h := ite_f h c1
    refine lv_iload_n hx hb dX5_isDigit_6 rfl (lv_at hl 0 rfl) ?_
    refine lv_bipush (v := 57) hx hb dX5_isDigit_7 (by decide) ?_
    refine lv_icmp_gt (tgt := 16) hx hb dX5_isDigit_9 (by decide) (fun c2 => ?_) (fun c2 => ?_)
    · replace h := ite_t h c2
      refine lv_iconst (v := 0) hx hb dX5_isDigit_16 (by decide) ?_
      obtain rfl := Option.some.inj h
      exact g_zret hx hb hr (by decide) hK hP hD hS hQ dX5_isDigit_17
    · replace h := ite_f h c2
      refine lv_iconst (v := 1) hx hb dX5_isDigit_12 (by decide) ?_
      refine lv_goto (tgt := 17) hx hb dX5_isDigit_13 (by decide) ?_
      obtain rfl := Option.some.inj h
      exact g_zret hx hb hr (by decide) hK hP hD hS hQ dX5_isDigit_17
theorem inX5_readDigits_X5 : ∀ w ∈ u_ws RX5 TX5 8, w ∈ wsX5_readDigits := by decide +kernel
theorem mX5_readDigits_0 : Cond.fieldLink RX5 71 "WarmBottles$Text" "value" "I" ∈ wsX5_readDigits := List.mem_of_getElem? (i := 1) rfl
theorem mX5_readDigits_1 : Cond.fieldLink RX5 9 "WarmBottles$Text" "letters" "[C" ∈ wsX5_readDigits := List.mem_of_getElem? (i := 4) rfl
theorem mX5_readDigits_2 : Cond.fieldLink RX5 44 "WarmBottles$Text" "start" "I" ∈ wsX5_readDigits := List.mem_of_getElem? (i := 9) rfl
theorem mX5_readDigits_3 : Cond.fieldLink RX5 37 "WarmBottles$Text" "token" "I" ∈ wsX5_readDigits := List.mem_of_getElem? (i := 10) rfl
theorem mX5_readDigits_4 : Cond.fieldLink RX5 24 "WarmBottles$Text" "place" "I" ∈ wsX5_readDigits := List.mem_of_getElem? (i := 2) rfl
theorem mX5_readDigits_5 : Cond.fieldLink RX5 15 "WarmBottles$Text" "length" "I" ∈ wsX5_readDigits := List.mem_of_getElem? (i := 3) rfl
theorem mX5_readDigits_6 : Cond.methodLink RX5 93 Lib.Math.min.name ∈ wsX5_readDigits := List.mem_of_getElem? (i := 5) rfl
theorem mX5_readDigits_7 : Cond.static Lib.Math.min.name ∈ wsX5_readDigits := List.mem_of_getElem? (i := 6) rfl
theorem mX5_readDigits_8 : Cond.initialized "java/lang/Math" ∈ wsX5_readDigits := List.mem_of_getElem? (i := 7) rfl
theorem mX5_readDigits_9 : Cond.code Lib.Math.min.name Lib.Math.min.code 2 (some .int) ∈ wsX5_readDigits := List.mem_of_getElem? (i := 8) rfl
def rm_X5_readDigits_C : Room := { frames := 5, cells := 0, slots := 0, locals := 270 }
def f_X5_readDigits_C_L5 (N : Nat) (k_5 : (Nat → Int32) → Option ((Nat → Int32))) (A : (Nat → Nat → Int32)) : Nat → (Nat → Int32) → Option ((Nat → Int32))
  | 0, _ => none
  | n_5 + 1, I_5 => (if (I_5 0) ≤ (I_5 1) then (k_5 I_5) else (if (I_5 1) < 0 ∨ 120 ≤ ((I_5 1)).toNatClampNeg then none else (Option.bind (f_X5_isDigit_C N I_5 A ((A 0) ((I_5 1)).toNatClampNeg)) (fun r9 => (if r9 = 0 then (k_5 I_5) else (f_X5_readDigits_C_L5 N k_5 A n_5 (upd (upd I_5 4 (iMin 100 (((I_5 4) * 10) + (((A 0) ((I_5 1)).toNatClampNeg) - 48)))) 1 ((I_5 1) + 1))))))))
def f_X5_readDigits_C (N : Nat) (I : Nat → Int32) (A : Nat → Nat → Int32)  : Option ((Nat → Int32)) := (f_X5_readDigits_C_L5 N (fun (I_5 : (Nat → Int32)) => (if (I_5 2) < 0 ∨ 120 ≤ ((I_5 2)).toNatClampNeg then none else (if ((A 0) ((I_5 2)).toNatClampNeg) = 48 then (if (I_5 1) ≤ ((I_5 2) + 1) then some (upd I_5 3 (-2)) else some (upd I_5 3 (-3))) else some (upd I_5 3 (-2))))) A N (upd I 4 0))
set_option maxHeartbeats 4000000 in
set_option maxRecDepth 100000 in
theorem c_X5_readDigits_C (l : Launch) (dC : Nat → ClassId) (dI : Nat → Nat → Nat) (a : Nat → Nat) (cy : Nat → ClassId) (N : Nat) (I : Nat → Int32) (A : Nat → Nat → Int32) (T : Int64)  (res : (Nat → Int32)) (h : f_X5_readDigits_C N I A  = some res) (sz : Nat) : Met l yX5_readDigits wsX5_readDigits rm_X5_readDigits_C (g_Pre (dC, dI) cy [.ref (a 1)] (wC a cy I A T) sz) (g_Qv (dC, dI) cy (wC a cy I A T) (wC a cy res A T) sz) 0 0 (va_A (wC a cy I A T) sz) := by
  unfold f_X5_readDigits_C at h
  refine g_entry _ _ _ _ _ _ (cc := cX5_readDigits) (maxL := 2) (ret := none) (by decide) rfl (Nat.le_of_ble_eq_true rfl) ?_
  intro p e s m args below meth c ls hx hb hml hown hts hr hlocks hA hK hP hD hS hl Q hQ
  have hl : lv_has ls 2 [(0, .ref (a 1))] := hl
  have hown : s.vm.findClass RX5 = some m.cls := hown
  refine lv_aload_n hx hb dX5_readDigits_0 rfl (lv_at hl 0 rfl) ?_
  refine lv_iconst (v := 0) hx hb dX5_readDigits_1 (by decide) ?_
  refine g_put (D := (dC, dI)) (ci := 5) (v := .int 0) (ty := .int) (C := RX5) (T := TX5) (N := 8) hx hb hts inX5_readDigits_X5 tyX5 tyX5_ok nmX5 hown hK hP hD hS 1 (eC_1 a cy I A T) rfl 5 (by decide) (hts _ mX5_readDigits_0) (fun _ h9 => h9) rfl (by decide +kernel) rfl rfl (Nat.le_of_ble_eq_true rfl) dX5_readDigits_2 (pC_1_5 a cy I A T 0) (fun H locs hP hD hS => ?_)
  have lp5 : ∀  (k_5 : (Nat → Int32) → Option ((Nat → Int32))), (∀ (I_5 : (Nat → Int32)), k_5 I_5 = some res → g_At (dC, dI) p l e (headSpec wsX5_readDigits rm_X5_readDigits_C).room s m args below meth c Q (wC a cy I A T) sz 2 (wC a cy I_5 A T) [(0, .ref (a 1))] 73 []) → ∀ (n_5 : Nat) (I_5 : (Nat → Int32)), f_X5_readDigits_C_L5 N k_5 A n_5 I_5 = some res → g_At (dC, dI) p l e (headSpec wsX5_readDigits rm_X5_readDigits_C).room s m args below meth c Q (wC a cy I A T) sz 2 (wC a cy I_5 A T) [(0, .ref (a 1))] 5 [] := by
    intro  k_5 hk_5 n_5
    induction n_5 with
    | zero =>
      intro I_5 h
      exact absurd h (by rw [f_X5_readDigits_C_L5]; exact fun q => by cases q)
    | succ n_5 ih5 =>
      intro I_5 h H locs hP hD hS ls hl
      rw [f_X5_readDigits_C_L5] at h
      refine lv_aload_n hx hb dX5_readDigits_5 rfl (lv_at hl 0 rfl) ?_
      refine va_get (D := (dC, dI)) (ci := 5) (v := .int (I_5 1)) (C := RX5) (T := TX5) (N := 8) hx hb hts inX5_readDigits_X5 hown hK hP 1 (eC_1 a cy I_5 A T) rfl 2 (by decide) (hts _ mX5_readDigits_4) (fun _ h9 => h9) rfl dX5_readDigits_6 ?_
      refine lv_aload_n hx hb dX5_readDigits_9 rfl (lv_at hl 0 rfl) ?_
      refine va_get (D := (dC, dI)) (ci := 5) (v := .int (I_5 0)) (C := RX5) (T := TX5) (N := 8) hx hb hts inX5_readDigits_X5 hown hK hP 1 (eC_1 a cy I_5 A T) rfl 1 (by decide) (hts _ mX5_readDigits_5) (fun _ h9 => h9) rfl dX5_readDigits_10 ?_
      refine lv_icmp_ge (tgt := 73) hx hb dX5_readDigits_13 (by decide) (fun c7 => ?_) (fun c7 => ?_)
      · replace h := ite_t h c7
        exact hk_5 _ h _ _ hP hD hS _ (lv_sub hl [0] rfl)
      · replace h := ite_f h c7
        refine lv_aload_n hx hb dX5_readDigits_16 rfl (lv_at hl 0 rfl) ?_
        refine va_get (D := (dC, dI)) (ci := 5) (v := .ref (a 2)) (C := RX5) (T := TX5) (N := 8) hx hb hts inX5_readDigits_X5 hown hK hP 1 (eC_1 a cy I_5 A T) rfl 0 (by decide) (hts _ mX5_readDigits_1) (fun _ h9 => h9) rfl dX5_readDigits_17 ?_
        refine lv_aload_n hx hb dX5_readDigits_20 rfl (lv_at hl 0 rfl) ?_
        refine va_get (D := (dC, dI)) (ci := 5) (v := .int (I_5 1)) (C := RX5) (T := TX5) (N := 8) hx hb hts inX5_readDigits_X5 hown hK hP 1 (eC_1 a cy I_5 A T) rfl 2 (by decide) (hts _ mX5_readDigits_4) (fun _ h9 => h9) rfl dX5_readDigits_21 ?_
        obtain ⟨i8, h⟩ := inb_some h
        refine g_cald (f := (A 0)) (j := ((I_5 1)).toNatClampNeg) hx hb hK hP 2 (eC_2 a cy I_5 A T) i8 rfl dX5_readDigits_24 ?_
        obtain ⟨r9, hr9, h⟩ := bnd_some h
        refine g_callSi (As := [.int ((A 0) ((I_5 1)).toNatClampNeg)]) (rest := []) hx hb hml hown hts (c_X5_isDigit_C l dC dI a cy N I_5 A T ((A 0) ((I_5 1)).toNatClampNeg) r9 hr9) (va_cwS 1 hts gX5_readDigits_X5_isDigit rfl rfl rfl (by decide +kernel) ⟨Nat.le_of_ble_eq_true rfl, Nat.le_of_ble_eq_true rfl⟩) hK hP hD hS hA rfl hl.1 rfl (Nat.le_of_ble_eq_true rfl) dX5_readDigits_25 (fun H locs hP hD hS => ?_)
        refine lv_if_eq (tgt := 73) hx hb dX5_readDigits_28 (by decide) (fun c10 => ?_) (fun c10 => ?_)
        · replace h := ite_t h c10
          exact hk_5 _ h _ _ hP hD hS _ (lv_sub hl [0] rfl)
        · replace h := ite_f h c10
          refine lv_aload_n hx hb dX5_readDigits_31 rfl (lv_at hl 0 rfl) ?_
          refine lv_bipush (v := 100) hx hb dX5_readDigits_32 (by decide) ?_
          refine lv_aload_n hx hb dX5_readDigits_34 rfl (lv_at hl 0 rfl) ?_
          refine va_get (D := (dC, dI)) (ci := 5) (v := .int (I_5 4)) (C := RX5) (T := TX5) (N := 8) hx hb hts inX5_readDigits_X5 hown hK hP 1 (eC_1 a cy I_5 A T) rfl 5 (by decide) (hts _ mX5_readDigits_0) (fun _ h9 => h9) rfl dX5_readDigits_35 ?_
          refine lv_bipush (v := 10) hx hb dX5_readDigits_38 (by decide) ?_
          refine lv_imul hx hb dX5_readDigits_40 ?_
          refine lv_aload_n hx hb dX5_readDigits_41 rfl (lv_at hl 0 rfl) ?_
          refine va_get (D := (dC, dI)) (ci := 5) (v := .ref (a 2)) (C := RX5) (T := TX5) (N := 8) hx hb hts inX5_readDigits_X5 hown hK hP 1 (eC_1 a cy I_5 A T) rfl 0 (by decide) (hts _ mX5_readDigits_1) (fun _ h9 => h9) rfl dX5_readDigits_42 ?_
          refine lv_aload_n hx hb dX5_readDigits_45 rfl (lv_at hl 0 rfl) ?_
          refine va_get (D := (dC, dI)) (ci := 5) (v := .int (I_5 1)) (C := RX5) (T := TX5) (N := 8) hx hb hts inX5_readDigits_X5 hown hK hP 1 (eC_1 a cy I_5 A T) rfl 2 (by decide) (hts _ mX5_readDigits_4) (fun _ h9 => h9) rfl dX5_readDigits_46 ?_
          refine g_cald (f := (A 0)) (j := ((I_5 1)).toNatClampNeg) hx hb hK hP 2 (eC_2 a cy I_5 A T) i8 rfl dX5_readDigits_49 ?_
          refine lv_bipush (v := 48) hx hb dX5_readDigits_50 (by decide) ?_
          refine lv_isub hx hb dX5_readDigits_52 ?_
          refine lv_iadd hx hb dX5_readDigits_53 ?_
          refine g_mmin hx hb (hml.trans hl.1.symm) hown (hts _ mX5_readDigits_6) (hts _ mX5_readDigits_7) (hts _ mX5_readDigits_8) (hts _ mX5_readDigits_9) (Nat.le_of_ble_eq_true rfl) (Nat.le_of_ble_eq_true rfl) (Nat.zero_le _) (Nat.zero_le _) dX5_readDigits_54 ?_
          refine g_put (D := (dC, dI)) (ci := 5) (v := .int (iMin 100 (((I_5 4) * 10) + (((A 0) ((I_5 1)).toNatClampNeg) - 48)))) (ty := .int) (C := RX5) (T := TX5) (N := 8) hx hb hts inX5_readDigits_X5 tyX5 tyX5_ok nmX5 hown hK hP hD hS 1 (eC_1 a cy I_5 A T) rfl 5 (by decide) (hts _ mX5_readDigits_0) (fun _ h9 => h9) rfl (by decide +kernel) rfl rfl (Nat.le_of_ble_eq_true rfl) dX5_readDigits_57 (pC_1_5 a cy I_5 A T (iMin 100 (((I_5 4) * 10) + (((A 0) ((I_5 1)).toNatClampNeg) - 48)))) (fun H locs hP hD hS => ?_)
          refine lv_aload_n hx hb dX5_readDigits_60 rfl (lv_at hl 0 rfl) ?_
          refine lv_dup hx hb dX5_readDigits_61 rfl ?_
          refine va_get (D := (dC, dI)) (ci := 5) (v := .int (I_5 1)) (C := RX5) (T := TX5) (N := 8) hx hb hts inX5_readDigits_X5 hown hK hP 1 (eC_1 a cy (upd I_5 4 (iMin 100 (((I_5 4) * 10) + (((A 0) ((I_5 1)).toNatClampNeg) - 48)))) A T) rfl 2 (by decide) (hts _ mX5_readDigits_4) (fun _ h9 => h9) rfl dX5_readDigits_62 ?_
          refine lv_iconst (v := 1) hx hb dX5_readDigits_65 (by decide) ?_
          refine lv_iadd hx hb dX5_readDigits_66 ?_
          refine g_put (D := (dC, dI)) (ci := 5) (v := .int ((I_5 1) + 1)) (ty := .int) (C := RX5) (T := TX5) (N := 8) hx hb hts inX5_readDigits_X5 tyX5 tyX5_ok nmX5 hown hK hP hD hS 1 (eC_1 a cy (upd I_5 4 (iMin 100 (((I_5 4) * 10) + (((A 0) ((I_5 1)).toNatClampNeg) - 48)))) A T) rfl 2 (by decide) (hts _ mX5_readDigits_4) (fun _ h9 => h9) rfl (by decide +kernel) rfl rfl (Nat.le_of_ble_eq_true rfl) dX5_readDigits_67 (pC_1_2 a cy (upd I_5 4 (iMin 100 (((I_5 4) * 10) + (((A 0) ((I_5 1)).toNatClampNeg) - 48)))) A T ((I_5 1) + 1)) (fun H locs hP hD hS => ?_)
          refine lv_goto (tgt := 5) hx hb dX5_readDigits_70 (by decide) ?_
          exact ih5 _ h _ _ hP hD hS _ (lv_sub hl [0] rfl)
  refine lp5  _ ?_ N _ h _ _ hP hD hS _ (lv_sub hl [0] rfl)
  intro I_5 h H locs hP hD hS ls hl
  refine lv_aload_n hx hb dX5_readDigits_73 rfl (lv_at hl 0 rfl) ?_
  refine va_get (D := (dC, dI)) (ci := 5) (v := .ref (a 2)) (C := RX5) (T := TX5) (N := 8) hx hb hts inX5_readDigits_X5 hown hK hP 1 (eC_1 a cy I_5 A T) rfl 0 (by decide) (hts _ mX5_readDigits_1) (fun _ h9 => h9) rfl dX5_readDigits_74 ?_
  refine lv_aload_n hx hb dX5_readDigits_77 rfl (lv_at hl 0 rfl) ?_
  refine va_get (D := (dC, dI)) (ci := 5) (v := .int (I_5 2)) (C := RX5) (T := TX5) (N := 8) hx hb hts inX5_readDigits_X5 hown hK hP 1 (eC_1 a cy I_5 A T) rfl 3 (by decide) (hts _ mX5_readDigits_2) (fun _ h9 => h9) rfl dX5_readDigits_78 ?_
  obtain ⟨i1, h⟩ := inb_some h
  refine g_cald (f := (A 0)) (j := ((I_5 2)).toNatClampNeg) hx hb hK hP 2 (eC_2 a cy I_5 A T) i1 rfl dX5_readDigits_81 ?_
  refine lv_bipush (v := 48) hx hb dX5_readDigits_82 (by decide) ?_
  refine lv_icmp_ne (tgt := 104) hx hb dX5_readDigits_84 (by decide) (fun c2 => ?_) (fun c2 => ?_)
  · replace h := ite_f h c2
    refine lv_iconst (v := 0) hx hb dX5_readDigits_104 (by decide) ?_
    refine lv_istore_n (lv' := [(1, .int 0), (0, .ref (a 1))]) hx hb dX5_readDigits_105 rfl hl (by decide) rfl (fun ls hl => ?_)
    refine lv_aload_n hx hb dX5_readDigits_106 rfl (lv_at hl 1 rfl) ?_
    refine lv_iload_n hx hb dX5_readDigits_107 rfl (lv_at hl 0 rfl) ?_
    refine lv_if_eq (tgt := 116) hx hb dX5_readDigits_108 (by decide) (fun _ => ?_) (fun c3 => absurd (by decide) c3)
    refine lv_bipush (v := (-2)) hx hb dX5_readDigits_116 (by decide) ?_
    refine g_put (D := (dC, dI)) (ci := 5) (v := .int (-2)) (ty := .int) (C := RX5) (T := TX5) (N := 8) hx hb hts inX5_readDigits_X5 tyX5 tyX5_ok nmX5 hown hK hP hD hS 1 (eC_1 a cy I_5 A T) rfl 4 (by decide) (hts _ mX5_readDigits_3) (fun _ h9 => h9) rfl (by decide +kernel) rfl rfl (Nat.le_of_ble_eq_true rfl) dX5_readDigits_118 (pC_1_4 a cy I_5 A T (-2)) (fun H locs hP hD hS => ?_)
    obtain rfl := Option.some.inj h
    exact g_vret hx hb hr hK hP hD hS hQ dX5_readDigits_121
  · replace h := ite_t h c2
    refine lv_aload_n hx hb dX5_readDigits_87 rfl (lv_at hl 0 rfl) ?_
    refine va_get (D := (dC, dI)) (ci := 5) (v := .int (I_5 1)) (C := RX5) (T := TX5) (N := 8) hx hb hts inX5_readDigits_X5 hown hK hP 1 (eC_1 a cy I_5 A T) rfl 2 (by decide) (hts _ mX5_readDigits_4) (fun _ h9 => h9) rfl dX5_readDigits_88 ?_
    refine lv_aload_n hx hb dX5_readDigits_91 rfl (lv_at hl 0 rfl) ?_
    refine va_get (D := (dC, dI)) (ci := 5) (v := .int (I_5 2)) (C := RX5) (T := TX5) (N := 8) hx hb hts inX5_readDigits_X5 hown hK hP 1 (eC_1 a cy I_5 A T) rfl 3 (by decide) (hts _ mX5_readDigits_2) (fun _ h9 => h9) rfl dX5_readDigits_92 ?_
    refine lv_iconst (v := 1) hx hb dX5_readDigits_95 (by decide) ?_
    refine lv_iadd hx hb dX5_readDigits_96 ?_
    refine lv_icmp_le (tgt := 104) hx hb dX5_readDigits_97 (by decide) (fun c4 => ?_) (fun c4 => ?_)
    · replace h := ite_t h c4
      refine lv_iconst (v := 0) hx hb dX5_readDigits_104 (by decide) ?_
      refine lv_istore_n (lv' := [(1, .int 0), (0, .ref (a 1))]) hx hb dX5_readDigits_105 rfl hl (by decide) rfl (fun ls hl => ?_)
      refine lv_aload_n hx hb dX5_readDigits_106 rfl (lv_at hl 1 rfl) ?_
      refine lv_iload_n hx hb dX5_readDigits_107 rfl (lv_at hl 0 rfl) ?_
      refine lv_if_eq (tgt := 116) hx hb dX5_readDigits_108 (by decide) (fun _ => ?_) (fun c5 => absurd (by decide) c5)
      refine lv_bipush (v := (-2)) hx hb dX5_readDigits_116 (by decide) ?_
      refine g_put (D := (dC, dI)) (ci := 5) (v := .int (-2)) (ty := .int) (C := RX5) (T := TX5) (N := 8) hx hb hts inX5_readDigits_X5 tyX5 tyX5_ok nmX5 hown hK hP hD hS 1 (eC_1 a cy I_5 A T) rfl 4 (by decide) (hts _ mX5_readDigits_3) (fun _ h9 => h9) rfl (by decide +kernel) rfl rfl (Nat.le_of_ble_eq_true rfl) dX5_readDigits_118 (pC_1_4 a cy I_5 A T (-2)) (fun H locs hP hD hS => ?_)
      obtain rfl := Option.some.inj h
      exact g_vret hx hb hr hK hP hD hS hQ dX5_readDigits_121
    · replace h := ite_f h c4
      refine lv_iconst (v := 1) hx hb dX5_readDigits_100 (by decide) ?_
      refine lv_goto (tgt := 105) hx hb dX5_readDigits_101 (by decide) ?_
      refine lv_istore_n (lv' := [(1, .int 1), (0, .ref (a 1))]) hx hb dX5_readDigits_105 rfl hl (by decide) rfl (fun ls hl => ?_)
      refine lv_aload_n hx hb dX5_readDigits_106 rfl (lv_at hl 1 rfl) ?_
      refine lv_iload_n hx hb dX5_readDigits_107 rfl (lv_at hl 0 rfl) ?_
      refine lv_if_eq (tgt := 116) hx hb dX5_readDigits_108 (by decide) (fun c6 => absurd c6 (by decide)) (fun _ => ?_)
      refine lv_bipush (v := (-3)) hx hb dX5_readDigits_111 (by decide) ?_
      refine lv_goto (tgt := 118) hx hb dX5_readDigits_113 (by decide) ?_
      refine g_put (D := (dC, dI)) (ci := 5) (v := .int (-3)) (ty := .int) (C := RX5) (T := TX5) (N := 8) hx hb hts inX5_readDigits_X5 tyX5 tyX5_ok nmX5 hown hK hP hD hS 1 (eC_1 a cy I_5 A T) rfl 4 (by decide) (hts _ mX5_readDigits_3) (fun _ h9 => h9) rfl (by decide +kernel) rfl rfl (Nat.le_of_ble_eq_true rfl) dX5_readDigits_118 (pC_1_4 a cy I_5 A T (-3)) (fun H locs hP hD hS => ?_)
      obtain rfl := Option.some.inj h
      exact g_vret hx hb hr hK hP hD hS hQ dX5_readDigits_121
theorem inX5_readToken_X5 : ∀ w ∈ u_ws RX5 TX5 8, w ∈ wsX5_readToken := by decide +kernel
theorem mX5_readToken_0 : Cond.fieldLink RX5 24 "WarmBottles$Text" "place" "I" ∈ wsX5_readToken := List.mem_of_getElem? (i := 1) rfl
theorem mX5_readToken_1 : Cond.fieldLink RX5 44 "WarmBottles$Text" "start" "I" ∈ wsX5_readToken := List.mem_of_getElem? (i := 4) rfl
theorem mX5_readToken_2 : Cond.fieldLink RX5 15 "WarmBottles$Text" "length" "I" ∈ wsX5_readToken := List.mem_of_getElem? (i := 2) rfl
theorem mX5_readToken_3 : Cond.fieldLink RX5 9 "WarmBottles$Text" "letters" "[C" ∈ wsX5_readToken := List.mem_of_getElem? (i := 3) rfl
theorem mX5_readToken_4 : Cond.fieldLink RX5 37 "WarmBottles$Text" "token" "I" ∈ wsX5_readToken := List.mem_of_getElem? (i := 5) rfl
def rm_X5_readToken_C : Room := { frames := 7, cells := 0, slots := 0, locals := 330 }
def f_X5_readToken_C_L0 (N : Nat) (k_0 : (Nat → Int32) → Option ((Nat → Int32))) (A : (Nat → Nat → Int32)) : Nat → (Nat → Int32) → Option ((Nat → Int32))
  | 0, _ => none
  | n_0 + 1, I_0 => (if (I_0 0) ≤ (I_0 1) then (k_0 I_0) else (if (I_0 1) < 0 ∨ 120 ≤ ((I_0 1)).toNatClampNeg then none else (if ((A 0) ((I_0 1)).toNatClampNeg) = 32 then (f_X5_readToken_C_L0 N k_0 A n_0 (upd I_0 1 ((I_0 1) + 1))) else (k_0 I_0))))
def f_X5_readToken_C (N : Nat) (I : Nat → Int32) (A : Nat → Nat → Int32)  : Option ((Nat → Int32)) := (f_X5_readToken_C_L0 N (fun (I_0 : (Nat → Int32)) => (if (I_0 1) < (I_0 0) then (if (I_0 1) < 0 ∨ 120 ≤ ((I_0 1)).toNatClampNeg then none else (Option.bind (f_X5_isDigit_C N (upd I_0 2 (I_0 1)) A ((A 0) ((I_0 1)).toNatClampNeg)) (fun r3 => (if r3 = 0 then some (upd (upd (upd I_0 2 (I_0 1)) 3 ((A 0) ((I_0 1)).toNatClampNeg)) 1 ((I_0 1) + 1)) else (Option.bind (f_X5_readDigits_C N (upd I_0 2 (I_0 1)) A) (fun r5 => some r5)))))) else some (upd (upd I_0 2 (I_0 1)) 3 (-1)))) A N I)
set_option maxHeartbeats 4000000 in
set_option maxRecDepth 100000 in
theorem c_X5_readToken_C (l : Launch) (dC : Nat → ClassId) (dI : Nat → Nat → Nat) (a : Nat → Nat) (cy : Nat → ClassId) (N : Nat) (I : Nat → Int32) (A : Nat → Nat → Int32) (T : Int64)  (res : (Nat → Int32)) (h : f_X5_readToken_C N I A  = some res) (sz : Nat) : Met l yX5_readToken wsX5_readToken rm_X5_readToken_C (g_Pre (dC, dI) cy [.ref (a 1)] (wC a cy I A T) sz) (g_Qv (dC, dI) cy (wC a cy I A T) (wC a cy res A T) sz) 0 0 (va_A (wC a cy I A T) sz) := by
  unfold f_X5_readToken_C at h
  refine g_entry _ _ _ _ _ _ (cc := cX5_readToken) (maxL := 1) (ret := none) (by decide) rfl (Nat.le_of_ble_eq_true rfl) ?_
  intro p e s m args below meth c ls hx hb hml hown hts hr hlocks hA hK hP hD hS hl Q hQ
  have hl : lv_has ls 1 [(0, .ref (a 1))] := hl
  have hown : s.vm.findClass RX5 = some m.cls := hown
  have lp0 : ∀  (k_0 : (Nat → Int32) → Option ((Nat → Int32))), (∀ (I_0 : (Nat → Int32)), k_0 I_0 = some res → g_At (dC, dI) p l e (headSpec wsX5_readToken rm_X5_readToken_C).room s m args below meth c Q (wC a cy I A T) sz 1 (wC a cy I_0 A T) [(0, .ref (a 1))] 38 []) → ∀ (n_0 : Nat) (I_0 : (Nat → Int32)), f_X5_readToken_C_L0 N k_0 A n_0 I_0 = some res → g_At (dC, dI) p l e (headSpec wsX5_readToken rm_X5_readToken_C).room s m args below meth c Q (wC a cy I A T) sz 1 (wC a cy I_0 A T) [(0, .ref (a 1))] 0 [] := by
    intro  k_0 hk_0 n_0
    induction n_0 with
    | zero =>
      intro I_0 h
      exact absurd h (by rw [f_X5_readToken_C_L0]; exact fun q => by cases q)
    | succ n_0 ih0 =>
      intro I_0 h H locs hP hD hS ls hl
      rw [f_X5_readToken_C_L0] at h
      refine lv_aload_n hx hb dX5_readToken_0 rfl (lv_at hl 0 rfl) ?_
      refine va_get (D := (dC, dI)) (ci := 5) (v := .int (I_0 1)) (C := RX5) (T := TX5) (N := 8) hx hb hts inX5_readToken_X5 hown hK hP 1 (eC_1 a cy I_0 A T) rfl 2 (by decide) (hts _ mX5_readToken_0) (fun _ h9 => h9) rfl dX5_readToken_1 ?_
      refine lv_aload_n hx hb dX5_readToken_4 rfl (lv_at hl 0 rfl) ?_
      refine va_get (D := (dC, dI)) (ci := 5) (v := .int (I_0 0)) (C := RX5) (T := TX5) (N := 8) hx hb hts inX5_readToken_X5 hown hK hP 1 (eC_1 a cy I_0 A T) rfl 1 (by decide) (hts _ mX5_readToken_2) (fun _ h9 => h9) rfl dX5_readToken_5 ?_
      refine lv_icmp_ge (tgt := 38) hx hb dX5_readToken_8 (by decide) (fun c6 => ?_) (fun c6 => ?_)
      · replace h := ite_t h c6
        exact hk_0 _ h _ _ hP hD hS _ (lv_sub hl [0] rfl)
      · replace h := ite_f h c6
        refine lv_aload_n hx hb dX5_readToken_11 rfl (lv_at hl 0 rfl) ?_
        refine va_get (D := (dC, dI)) (ci := 5) (v := .ref (a 2)) (C := RX5) (T := TX5) (N := 8) hx hb hts inX5_readToken_X5 hown hK hP 1 (eC_1 a cy I_0 A T) rfl 0 (by decide) (hts _ mX5_readToken_3) (fun _ h9 => h9) rfl dX5_readToken_12 ?_
        refine lv_aload_n hx hb dX5_readToken_15 rfl (lv_at hl 0 rfl) ?_
        refine va_get (D := (dC, dI)) (ci := 5) (v := .int (I_0 1)) (C := RX5) (T := TX5) (N := 8) hx hb hts inX5_readToken_X5 hown hK hP 1 (eC_1 a cy I_0 A T) rfl 2 (by decide) (hts _ mX5_readToken_0) (fun _ h9 => h9) rfl dX5_readToken_16 ?_
        obtain ⟨i7, h⟩ := inb_some h
        refine g_cald (f := (A 0)) (j := ((I_0 1)).toNatClampNeg) hx hb hK hP 2 (eC_2 a cy I_0 A T) i7 rfl dX5_readToken_19 ?_
        refine lv_bipush (v := 32) hx hb dX5_readToken_20 (by decide) ?_
        refine lv_icmp_ne (tgt := 38) hx hb dX5_readToken_22 (by decide) (fun c8 => ?_) (fun c8 => ?_)
        · replace h := ite_f h c8
          exact hk_0 _ h _ _ hP hD hS _ (lv_sub hl [0] rfl)
        · replace h := ite_t h c8
          refine lv_aload_n hx hb dX5_readToken_25 rfl (lv_at hl 0 rfl) ?_
          refine lv_dup hx hb dX5_readToken_26 rfl ?_
          refine va_get (D := (dC, dI)) (ci := 5) (v := .int (I_0 1)) (C := RX5) (T := TX5) (N := 8) hx hb hts inX5_readToken_X5 hown hK hP 1 (eC_1 a cy I_0 A T) rfl 2 (by decide) (hts _ mX5_readToken_0) (fun _ h9 => h9) rfl dX5_readToken_27 ?_
          refine lv_iconst (v := 1) hx hb dX5_readToken_30 (by decide) ?_
          refine lv_iadd hx hb dX5_readToken_31 ?_
          refine g_put (D := (dC, dI)) (ci := 5) (v := .int ((I_0 1) + 1)) (ty := .int) (C := RX5) (T := TX5) (N := 8) hx hb hts inX5_readToken_X5 tyX5 tyX5_ok nmX5 hown hK hP hD hS 1 (eC_1 a cy I_0 A T) rfl 2 (by decide) (hts _ mX5_readToken_0) (fun _ h9 => h9) rfl (by decide +kernel) rfl rfl (Nat.le_of_ble_eq_true rfl) dX5_readToken_32 (pC_1_2 a cy I_0 A T ((I_0 1) + 1)) (fun H locs hP hD hS => ?_)
          refine lv_goto (tgt := 0) hx hb dX5_readToken_35 (by decide) ?_
          exact ih0 _ h _ _ hP hD hS _ (lv_sub hl [0] rfl)
  refine lp0  _ ?_ N _ h _ _ hP hD hS _ (lv_sub hl [0] rfl)
  intro I_0 h H locs hP hD hS ls hl
  refine lv_aload_n hx hb dX5_readToken_38 rfl (lv_at hl 0 rfl) ?_
  refine lv_aload_n hx hb dX5_readToken_39 rfl (lv_at hl 0 rfl) ?_
  refine va_get (D := (dC, dI)) (ci := 5) (v := .int (I_0 1)) (C := RX5) (T := TX5) (N := 8) hx hb hts inX5_readToken_X5 hown hK hP 1 (eC_1 a cy I_0 A T) rfl 2 (by decide) (hts _ mX5_readToken_0) (fun _ h9 => h9) rfl dX5_readToken_40 ?_
  refine g_put (D := (dC, dI)) (ci := 5) (v := .int (I_0 1)) (ty := .int) (C := RX5) (T := TX5) (N := 8) hx hb hts inX5_readToken_X5 tyX5 tyX5_ok nmX5 hown hK hP hD hS 1 (eC_1 a cy I_0 A T) rfl 3 (by decide) (hts _ mX5_readToken_1) (fun _ h9 => h9) rfl (by decide +kernel) rfl rfl (Nat.le_of_ble_eq_true rfl) dX5_readToken_43 (pC_1_3 a cy I_0 A T (I_0 1)) (fun H locs hP hD hS => ?_)
  refine lv_aload_n hx hb dX5_readToken_46 rfl (lv_at hl 0 rfl) ?_
  refine va_get (D := (dC, dI)) (ci := 5) (v := .int (I_0 1)) (C := RX5) (T := TX5) (N := 8) hx hb hts inX5_readToken_X5 hown hK hP 1 (eC_1 a cy (upd I_0 2 (I_0 1)) A T) rfl 2 (by decide) (hts _ mX5_readToken_0) (fun _ h9 => h9) rfl dX5_readToken_47 ?_
  refine lv_aload_n hx hb dX5_readToken_50 rfl (lv_at hl 0 rfl) ?_
  refine va_get (D := (dC, dI)) (ci := 5) (v := .int (I_0 0)) (C := RX5) (T := TX5) (N := 8) hx hb hts inX5_readToken_X5 hown hK hP 1 (eC_1 a cy (upd I_0 2 (I_0 1)) A T) rfl 1 (by decide) (hts _ mX5_readToken_2) (fun _ h9 => h9) rfl dX5_readToken_51 ?_
  refine lv_icmp_lt (tgt := 65) hx hb dX5_readToken_54 (by decide) (fun c1 => ?_) (fun c1 => ?_)
  · replace h := ite_t h c1
    refine lv_aload_n hx hb dX5_readToken_65 rfl (lv_at hl 0 rfl) ?_
    refine va_get (D := (dC, dI)) (ci := 5) (v := .ref (a 2)) (C := RX5) (T := TX5) (N := 8) hx hb hts inX5_readToken_X5 hown hK hP 1 (eC_1 a cy (upd I_0 2 (I_0 1)) A T) rfl 0 (by decide) (hts _ mX5_readToken_3) (fun _ h9 => h9) rfl dX5_readToken_66 ?_
    refine lv_aload_n hx hb dX5_readToken_69 rfl (lv_at hl 0 rfl) ?_
    refine va_get (D := (dC, dI)) (ci := 5) (v := .int (I_0 1)) (C := RX5) (T := TX5) (N := 8) hx hb hts inX5_readToken_X5 hown hK hP 1 (eC_1 a cy (upd I_0 2 (I_0 1)) A T) rfl 2 (by decide) (hts _ mX5_readToken_0) (fun _ h9 => h9) rfl dX5_readToken_70 ?_
    obtain ⟨i2, h⟩ := inb_some h
    refine g_cald (f := (A 0)) (j := ((I_0 1)).toNatClampNeg) hx hb hK hP 2 (eC_2 a cy (upd I_0 2 (I_0 1)) A T) i2 rfl dX5_readToken_73 ?_
    obtain ⟨r3, hr3, h⟩ := bnd_some h
    refine g_callSi (As := [.int ((A 0) ((I_0 1)).toNatClampNeg)]) (rest := []) hx hb hml hown hts (c_X5_isDigit_C l dC dI a cy N (upd I_0 2 (I_0 1)) A T ((A 0) ((I_0 1)).toNatClampNeg) r3 hr3) (va_cwS 1 hts gX5_readToken_X5_isDigit rfl rfl rfl (by decide +kernel) ⟨Nat.le_of_ble_eq_true rfl, Nat.le_of_ble_eq_true rfl⟩) hK hP hD hS hA rfl hl.1 rfl (Nat.le_of_ble_eq_true rfl) dX5_readToken_74 (fun H locs hP hD hS => ?_)
    refine lv_if_eq (tgt := 87) hx hb dX5_readToken_77 (by decide) (fun c4 => ?_) (fun c4 => ?_)
    · replace h := ite_t h c4
      refine lv_aload_n hx hb dX5_readToken_87 rfl (lv_at hl 0 rfl) ?_
      refine lv_aload_n hx hb dX5_readToken_88 rfl (lv_at hl 0 rfl) ?_
      refine va_get (D := (dC, dI)) (ci := 5) (v := .ref (a 2)) (C := RX5) (T := TX5) (N := 8) hx hb hts inX5_readToken_X5 hown hK hP 1 (eC_1 a cy (upd I_0 2 (I_0 1)) A T) rfl 0 (by decide) (hts _ mX5_readToken_3) (fun _ h9 => h9) rfl dX5_readToken_89 ?_
      refine lv_aload_n hx hb dX5_readToken_92 rfl (lv_at hl 0 rfl) ?_
      refine va_get (D := (dC, dI)) (ci := 5) (v := .int (I_0 1)) (C := RX5) (T := TX5) (N := 8) hx hb hts inX5_readToken_X5 hown hK hP 1 (eC_1 a cy (upd I_0 2 (I_0 1)) A T) rfl 2 (by decide) (hts _ mX5_readToken_0) (fun _ h9 => h9) rfl dX5_readToken_93 ?_
      refine g_cald (f := (A 0)) (j := ((I_0 1)).toNatClampNeg) hx hb hK hP 2 (eC_2 a cy (upd I_0 2 (I_0 1)) A T) i2 rfl dX5_readToken_96 ?_
      refine g_put (D := (dC, dI)) (ci := 5) (v := .int ((A 0) ((I_0 1)).toNatClampNeg)) (ty := .int) (C := RX5) (T := TX5) (N := 8) hx hb hts inX5_readToken_X5 tyX5 tyX5_ok nmX5 hown hK hP hD hS 1 (eC_1 a cy (upd I_0 2 (I_0 1)) A T) rfl 4 (by decide) (hts _ mX5_readToken_4) (fun _ h9 => h9) rfl (by decide +kernel) rfl rfl (Nat.le_of_ble_eq_true rfl) dX5_readToken_97 (pC_1_4 a cy (upd I_0 2 (I_0 1)) A T ((A 0) ((I_0 1)).toNatClampNeg)) (fun H locs hP hD hS => ?_)
      refine lv_aload_n hx hb dX5_readToken_100 rfl (lv_at hl 0 rfl) ?_
      refine lv_dup hx hb dX5_readToken_101 rfl ?_
      refine va_get (D := (dC, dI)) (ci := 5) (v := .int (I_0 1)) (C := RX5) (T := TX5) (N := 8) hx hb hts inX5_readToken_X5 hown hK hP 1 (eC_1 a cy (upd (upd I_0 2 (I_0 1)) 3 ((A 0) ((I_0 1)).toNatClampNeg)) A T) rfl 2 (by decide) (hts _ mX5_readToken_0) (fun _ h9 => h9) rfl dX5_readToken_102 ?_
      refine lv_iconst (v := 1) hx hb dX5_readToken_105 (by decide) ?_
      refine lv_iadd hx hb dX5_readToken_106 ?_
      refine g_put (D := (dC, dI)) (ci := 5) (v := .int ((I_0 1) + 1)) (ty := .int) (C := RX5) (T := TX5) (N := 8) hx hb hts inX5_readToken_X5 tyX5 tyX5_ok nmX5 hown hK hP hD hS 1 (eC_1 a cy (upd (upd I_0 2 (I_0 1)) 3 ((A 0) ((I_0 1)).toNatClampNeg)) A T) rfl 2 (by decide) (hts _ mX5_readToken_0) (fun _ h9 => h9) rfl (by decide +kernel) rfl rfl (Nat.le_of_ble_eq_true rfl) dX5_readToken_107 (pC_1_2 a cy (upd (upd I_0 2 (I_0 1)) 3 ((A 0) ((I_0 1)).toNatClampNeg)) A T ((I_0 1) + 1)) (fun H locs hP hD hS => ?_)
      obtain rfl := Option.some.inj h
      exact g_vret hx hb hr hK hP hD hS hQ dX5_readToken_110
    · replace h := ite_f h c4
      refine lv_aload_n hx hb dX5_readToken_80 rfl (lv_at hl 0 rfl) ?_
      obtain ⟨r5, hr5, h⟩ := bnd_some h
      refine g_callVv (As := []) (rest := []) (ci := 5) (q0 := 1) hx hb hml hown hts (c_X5_readDigits_C l dC dI a cy N (upd I_0 2 (I_0 1)) A T r5 hr5) (cwV 0 hts gX5_readToken_X5_readDigits rfl rfl rfl (by decide +kernel) ⟨Nat.le_of_ble_eq_true rfl, Nat.le_of_ble_eq_true rfl⟩) hK hP hD hS hA rfl (eC_1 a cy (upd I_0 2 (I_0 1)) A T) rfl rfl hl.1 rfl (Nat.le_of_ble_eq_true rfl) dX5_readToken_81 (fun H locs hP hD hS => ?_)
      refine lv_goto (tgt := 110) hx hb dX5_readToken_84 (by decide) ?_
      obtain rfl := Option.some.inj h
      exact g_vret hx hb hr hK hP hD hS hQ dX5_readToken_110
  · replace h := ite_f h c1
    refine lv_aload_n hx hb dX5_readToken_57 rfl (lv_at hl 0 rfl) ?_
    refine lv_iconst (v := (-1)) hx hb dX5_readToken_58 (by decide) ?_
    refine g_put (D := (dC, dI)) (ci := 5) (v := .int (-1)) (ty := .int) (C := RX5) (T := TX5) (N := 8) hx hb hts inX5_readToken_X5 tyX5 tyX5_ok nmX5 hown hK hP hD hS 1 (eC_1 a cy (upd I_0 2 (I_0 1)) A T) rfl 4 (by decide) (hts _ mX5_readToken_4) (fun _ h9 => h9) rfl (by decide +kernel) rfl rfl (Nat.le_of_ble_eq_true rfl) dX5_readToken_59 (pC_1_4 a cy (upd I_0 2 (I_0 1)) A T (-1)) (fun H locs hP hD hS => ?_)
    refine lv_goto (tgt := 110) hx hb dX5_readToken_62 (by decide) ?_
    obtain rfl := Option.some.inj h
    exact g_vret hx hb hr hK hP hD hS hQ dX5_readToken_110
theorem inX5_readNumber_X5 : ∀ w ∈ u_ws RX5 TX5 8, w ∈ wsX5_readNumber := by decide +kernel
theorem mX5_readNumber_0 : Cond.fieldLink RX5 37 "WarmBottles$Text" "token" "I" ∈ wsX5_readNumber := List.mem_of_getElem? (i := 1) rfl
theorem mX5_readNumber_1 : Cond.fieldLink RX5 71 "WarmBottles$Text" "value" "I" ∈ wsX5_readNumber := List.mem_of_getElem? (i := 2) rfl
def rm_X5_readNumber_C : Room := { frames := 9, cells := 0, slots := 0, locals := 390 }
def f_X5_readNumber_C (N : Nat) (I : Nat → Int32) (A : Nat → Nat → Int32) (p1 : Int32) (p2 : Int32) : Option (Int32 × (Nat → Int32)) := (Option.bind (f_X5_readToken_C N I A) (fun r1 => (if (r1 3) = (-2) then (if (r1 4) < p1 then some (0, r1) else (if p2 < (r1 4) then some (0, r1) else some (1, r1))) else some (0, r1))))
set_option maxHeartbeats 4000000 in
set_option maxRecDepth 100000 in
theorem c_X5_readNumber_C (l : Launch) (dC : Nat → ClassId) (dI : Nat → Nat → Nat) (a : Nat → Nat) (cy : Nat → ClassId) (N : Nat) (I : Nat → Int32) (A : Nat → Nat → Int32) (T : Int64) (p1 : Int32) (p2 : Int32) (res : Int32 × (Nat → Int32)) (h : f_X5_readNumber_C N I A p1 p2 = some res) (sz : Nat) : Met l yX5_readNumber wsX5_readNumber rm_X5_readNumber_C (g_Pre (dC, dI) cy [.ref (a 1), .int p1, .int p2] (wC a cy I A T) sz) (g_Qi (dC, dI) cy res.1 (wC a cy I A T) (wC a cy res.2 A T) sz) 0 0 (va_A (wC a cy I A T) sz) := by
  unfold f_X5_readNumber_C at h
  refine g_entry _ _ _ _ _ _ (cc := cX5_readNumber) (maxL := 3) (ret := (some .boolean)) (by decide) rfl (Nat.le_of_ble_eq_true rfl) ?_
  intro p e s m args below meth c ls hx hb hml hown hts hr hlocks hA hK hP hD hS hl Q hQ
  have hl : lv_has ls 3 [(0, .ref (a 1)), (1, .int p1), (2, .int p2)] := hl
  have hown : s.vm.findClass RX5 = some m.cls := hown
  refine lv_aload_n hx hb dX5_readNumber_0 rfl (lv_at hl 0 rfl) ?_
  obtain ⟨r1, hr1, h⟩ := bnd_some h
  refine g_callVv (As := []) (rest := []) (ci := 5) (q0 := 1) hx hb hml hown hts (c_X5_readToken_C l dC dI a cy N I A T r1 hr1) (cwV 0 hts gX5_readNumber_X5_readToken rfl rfl rfl (by decide +kernel) ⟨Nat.le_of_ble_eq_true rfl, Nat.le_of_ble_eq_true rfl⟩) hK hP hD hS hA rfl (eC_1 a cy I A T) rfl rfl hl.1 rfl (Nat.le_of_ble_eq_true rfl) dX5_readNumber_1 (fun H locs hP hD hS => ?_)
  refine lv_aload_n hx hb dX5_readNumber_4 rfl (lv_at hl 0 rfl) ?_
  refine va_get (D := (dC, dI)) (ci := 5) (v := .int (r1 3)) (C := RX5) (T := TX5) (N := 8) hx hb hts inX5_readNumber_X5 hown hK hP 1 (eC_1 a cy r1 A T) rfl 4 (by decide) (hts _ mX5_readNumber_0) (fun _ h9 => h9) rfl dX5_readNumber_5 ?_
  refine lv_bipush (v := (-2)) hx hb dX5_readNumber_8 (by decide) ?_
  refine lv_icmp_ne (tgt := 33) hx hb dX5_readNumber_10 (by decide) (fun c2 => ?_) (fun c2 => ?_)
  · replace h := ite_f h c2
    refine lv_iconst (v := 0) hx hb dX5_readNumber_33 (by decide) ?_
    obtain rfl := Option.some.inj h
    exact g_zret hx hb hr (by decide) hK hP hD hS hQ dX5_readNumber_34
  · replace h := ite_t h c2
    refine lv_aload_n hx hb dX5_readNumber_13 rfl (lv_at hl 0 rfl) ?_
    refine va_get (D := (dC, dI)) (ci := 5) (v := .int (r1 4)) (C := RX5) (T := TX5) (N := 8) hx hb hts inX5_readNumber_X5 hown hK hP 1 (eC_1 a cy r1 A T) rfl 5 (by decide) (hts _ mX5_readNumber_1) (fun _ h9 => h9) rfl dX5_readNumber_14 ?_
    refine lv_iload_n hx hb dX5_readNumber_17 rfl (lv_at hl 1 rfl) ?_
    refine lv_icmp_lt (tgt := 33) hx hb dX5_readNumber_18 (by decide) (fun c3 => ?_) (fun c3 => ?_)
    · replace h := ite_t h c3
      refine lv_iconst (v := 0) hx hb dX5_readNumber_33 (by decide) ?_
      obtain rfl := Option.some.inj h
      exact g_zret hx hb hr (by decide) hK hP hD hS hQ dX5_readNumber_34
    · replace h := ite_f h c3
      refine lv_aload_n hx hb dX5_readNumber_21 rfl (lv_at hl 0 rfl) ?_
      refine va_get (D := (dC, dI)) (ci := 5) (v := .int (r1 4)) (C := RX5) (T := TX5) (N := 8) hx hb hts inX5_readNumber_X5 hown hK hP 1 (eC_1 a cy r1 A T) rfl 5 (by decide) (hts _ mX5_readNumber_1) (fun _ h9 => h9) rfl dX5_readNumber_22 ?_
      refine lv_iload_n hx hb dX5_readNumber_25 rfl (lv_at hl 2 rfl) ?_
      refine lv_icmp_gt (tgt := 33) hx hb dX5_readNumber_26 (by decide) (fun c4 => ?_) (fun c4 => ?_)
      · replace h := ite_t h c4
        refine lv_iconst (v := 0) hx hb dX5_readNumber_33 (by decide) ?_
        obtain rfl := Option.some.inj h
        exact g_zret hx hb hr (by decide) hK hP hD hS hQ dX5_readNumber_34
      · replace h := ite_f h c4
        refine lv_iconst (v := 1) hx hb dX5_readNumber_29 (by decide) ?_
        refine lv_goto (tgt := 34) hx hb dX5_readNumber_30 (by decide) ?_
        obtain rfl := Option.some.inj h
        exact g_zret hx hb hr (by decide) hK hP hD hS hQ dX5_readNumber_34
