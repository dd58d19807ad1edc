theorem inX2_first_X3 : ∀ w ∈ u_ws RX3 TX3 6, w ∈ wsX2_first := by decide +kernel
theorem mX2_first_0 : Cond.fieldLink RX2 36 "WarmBottles$Night" "told" "LWarmBottles$Told;" ∈ wsX2_first := List.mem_of_getElem? (i := 1) rfl
theorem inX2_first_X6 : ∀ w ∈ u_ws RX6 TX6 6, w ∈ wsX2_first := by decide +kernel
theorem mX2_first_1 : Cond.fieldLink RX2 40 "WarmBottles$Told" "bottles" "I" ∈ wsX2_first := List.mem_of_getElem? (i := 2) rfl
theorem mX2_first_2 : Cond.fieldLink RX2 22 "WarmBottles$Night" "kettle" "I" ∈ wsX2_first := List.mem_of_getElem? (i := 3) rfl
def rm_X2_first_C : Room := { frames := 62, cells := 0, slots := 0, locals := 3060 }
def f_X2_first_C_L15 (N : Nat) (k_15 : Int32 → (Nat → Nat → Int32) → Option (Int32 × (Nat → Nat → Int32))) (x2 : Int32) (I : (Nat → Int32)) : Nat → Int32 → (Nat → Nat → Int32) → Option (Int32 × (Nat → Nat → Int32))
  | 0, _, _ => none
  | n_15 + 1, x3, A_15 => (if (I 13) ≤ x3 then (k_15 x3 A_15) else (Option.bind (f_X2_mostByFilling_C N (f_X2_mostFrom_C N 6) I A_15 x3 0 (I 12)) (fun r4 => (if r4.1 = x2 then some (x3, r4.2) else (f_X2_first_C_L15 N k_15 x2 I n_15 (x3 + 1) r4.2)))))
def f_X2_first_C (N : Nat) (I : Nat → Int32) (A : Nat → Nat → Int32)  : Option (Int32 × (Nat → Nat → Int32)) := (Option.bind (f_X2_mostHours_C N I A) (fun r1 => (if r1.1 = 0 then some ((-9), r1.2) else (f_X2_first_C_L15 N (fun (x3 : Int32) (A_15 : (Nat → Nat → Int32)) => some (6, A_15)) r1.1 I N 0 r1.2))))
set_option maxHeartbeats 4000000 in
set_option maxRecDepth 100000 in
theorem c_X2_first_C (l : Launch) (dC : Nat → ClassId) (dI : Nat → Nat → Nat) (a : Nat → Nat) (cy : Nat → ClassId) (N : Nat) (I : Nat → Int32) (A : Nat → Nat → Int32) (T : Int64)  (res : Int32 × (Nat → Nat → Int32)) (h : f_X2_first_C N I A  = some res) (sz : Nat) : Met l yX2_first wsX2_first rm_X2_first_C (g_Pre (dC, dI) cy [.ref (a 23), .ref (a 7)] (wC a cy I A T) sz) (g_Qi (dC, dI) cy res.1 (wC a cy I A T) (wC a cy I res.2 T) sz) 0 0 (va_A (wC a cy I A T) sz) := by
  unfold f_X2_first_C at h
  refine g_entry _ _ _ _ _ _ (cc := cX2_first) (maxL := 4) (ret := (some .int)) (by decide) rfl (Nat.le_of_ble_eq_true rfl) ?_
  intro p e s m args below meth c ls hx hb hml hown hts hr hlocks hA hK hP hD hS hl Q hQ
  have hl : lv_has ls 4 [(0, .ref (a 23)), (1, .ref (a 7))] := hl
  have hown : s.vm.findClass RX2 = some m.cls := hown
  refine lv_aload_n hx hb dX2_first_0 rfl (lv_at hl 0 rfl) ?_
  refine lv_aload_n hx hb dX2_first_1 rfl (lv_at hl 1 rfl) ?_
  obtain ⟨r1, hr1, h⟩ := bnd_some h
  refine g_callVi (As := [.ref (a 7)]) (rest := []) (ci := 2) (q0 := 23) hx hb hml hown hts (c_X2_mostHours_C l dC dI a cy N I A T r1 hr1) (cwV 1 hts gX2_first_X2_mostHours rfl rfl rfl (by decide +kernel) ⟨Nat.le_of_ble_eq_true rfl, Nat.le_of_ble_eq_true rfl⟩) hK hP hD hS hA rfl (eC_23 a cy I A T) rfl rfl hl.1 rfl (Nat.le_of_ble_eq_true rfl) dX2_first_2 (fun H locs hP hD hS => ?_)
  refine lv_istore_n (lv' := [(2, .int r1.1), (0, .ref (a 23)), (1, .ref (a 7))]) hx hb dX2_first_5 rfl hl (by decide) rfl (fun ls hl => ?_)
  refine lv_iload_n hx hb dX2_first_6 rfl (lv_at hl 0 rfl) ?_
  refine lv_if_ne (tgt := 13) hx hb dX2_first_7 (by decide) (fun c2 => ?_) (fun c2 => ?_)
  · replace h := ite_f h c2
    refine lv_iconst (v := 0) hx hb dX2_first_13 (by decide) ?_
    refine lv_istore_n (lv' := [(3, .int 0), (2, .int r1.1), (0, .ref (a 23)), (1, .ref (a 7))]) hx hb dX2_first_14 rfl hl (by decide) rfl (fun ls hl => ?_)
    have lp15 : ∀ (x2 : Int32) (k_15 : Int32 → (Nat → Nat → Int32) → Option (Int32 × (Nat → Nat → Int32))), (∀ (x3 : Int32) (A_15 : (Nat → Nat → Int32)), k_15 x3 A_15 = some res → g_At (dC, dI) p l e (headSpec wsX2_first rm_X2_first_C).room s m args below meth c Q (wC a cy I A T) sz 4 (wC a cy I A_15 T) [] 49 []) → ∀ (n_15 : Nat) (x3 : Int32) (A_15 : (Nat → Nat → Int32)), f_X2_first_C_L15 N k_15 x2 I n_15 x3 A_15 = some res → g_At (dC, dI) p l e (headSpec wsX2_first rm_X2_first_C).room s m args below meth c Q (wC a cy I A T) sz 4 (wC a cy I A_15 T) [(0, .ref (a 23)), (1, .ref (a 7)), (2, .int x2), (3, .int x3)] 15 [] := by
      intro x2 k_15 hk_15 n_15
      induction n_15 with
      | zero =>
        intro x3 A_15 h
        exact absurd h (by rw [f_X2_first_C_L15]; exact fun q => by cases q)
      | succ n_15 ih15 =>
        intro x3 A_15 h H locs hP hD hS ls hl
        rw [f_X2_first_C_L15] at h
        refine lv_iload_n hx hb dX2_first_15 rfl (lv_at hl 3 rfl) ?_
        refine lv_aload_n hx hb dX2_first_16 rfl (lv_at hl 1 rfl) ?_
        refine va_get (D := (dC, dI)) (ci := 3) (v := .ref (a 8)) (C := RX3) (T := TX3) (N := 6) hx hb hts inX2_first_X3 hown hK hP 7 (eC_7 a cy I A_15 T) rfl 0 (by decide) (hts _ mX2_first_0) (fun _ h9 => h9) rfl dX2_first_17 ?_
        refine va_get (D := (dC, dI)) (ci := 6) (v := .int (I 13)) (C := RX6) (T := TX6) (N := 6) hx hb hts inX2_first_X6 hown hK hP 8 (eC_8 a cy I A_15 T) rfl 3 (by decide) (hts _ mX2_first_1) (fun _ h9 => h9) rfl dX2_first_20 ?_
        refine lv_icmp_ge (tgt := 49) hx hb dX2_first_23 (by decide) (fun c3 => ?_) (fun c3 => ?_)
        · replace h := ite_t h c3
          exact hk_15 _ _ h _ _ hP hD hS _ (lv_sub hl [] rfl)
        · replace h := ite_f h c3
          refine lv_aload_n hx hb dX2_first_26 rfl (lv_at hl 0 rfl) ?_
          refine lv_aload_n hx hb dX2_first_27 rfl (lv_at hl 1 rfl) ?_
          refine lv_iload_n hx hb dX2_first_28 rfl (lv_at hl 3 rfl) ?_
          refine lv_iconst (v := 0) hx hb dX2_first_29 (by decide) ?_
          refine lv_aload_n hx hb dX2_first_30 rfl (lv_at hl 1 rfl) ?_
          refine va_get (D := (dC, dI)) (ci := 3) (v := .int (I 12)) (C := RX3) (T := TX3) (N := 6) hx hb hts inX2_first_X3 hown hK hP 7 (eC_7 a cy I A_15 T) rfl 5 (by decide) (hts _ mX2_first_2) (fun _ h9 => h9) rfl dX2_first_31 ?_
          obtain ⟨r4, hr4, h⟩ := bnd_some h
          refine g_callVi (As := [.ref (a 7), .int x3, .int 0, .int (I 12)]) (rest := []) (ci := 2) (q0 := 23) hx hb hml hown hts (c_X2_mostByFilling_C l dC dI a cy N (f_X2_mostFrom_C N 6) 6 (c_X2_mostFrom_C l dC dI a cy N 6) I A_15 T x3 0 (I 12) r4 hr4) (cwV 4 hts gX2_first_X2_mostByFilling rfl rfl rfl (by decide +kernel) ⟨Nat.le_of_ble_eq_true rfl, Nat.le_of_ble_eq_true rfl⟩) hK hP hD hS hA rfl (eC_23 a cy I A_15 T) rfl rfl hl.1 rfl (Nat.le_of_ble_eq_true rfl) dX2_first_34 (fun H locs hP hD hS => ?_)
          refine lv_iload_n hx hb dX2_first_37 rfl (lv_at hl 2 rfl) ?_
          refine lv_icmp_ne (tgt := 43) hx hb dX2_first_38 (by decide) (fun c5 => ?_) (fun c5 => ?_)
          · replace h := ite_f h c5
            refine lv_iinc (v := (x3 + 1)) (lv' := [(3, .int (x3 + 1)), (0, .ref (a 23)), (1, .ref (a 7)), (2, .int x2)]) hx hb dX2_first_43 hl (k := 3) rfl rfl (by decide) rfl (fun ls hl => ?_)
            refine lv_goto (tgt := 15) hx hb dX2_first_46 (by decide) ?_
            exact ih15 _ _ h _ _ hP hD hS _ (lv_sub hl [1, 2, 3, 0] rfl)
          · replace h := ite_t h c5
            refine lv_iload_n hx hb dX2_first_41 rfl (lv_at hl 3 rfl) ?_
            obtain rfl := Option.some.inj h
            exact g_iret hx hb hr hK hP hD hS hQ dX2_first_42
    refine lp15 _ _ ?_ N _ _ h _ _ hP hD hS _ (lv_sub hl [2, 3, 1, 0] rfl)
    intro x3 A_15 h H locs hP hD hS ls hl
    refine lv_bipush (v := 6) hx hb dX2_first_49 (by decide) ?_
    obtain rfl := Option.some.inj h
    exact g_iret hx hb hr hK hP hD hS hQ dX2_first_51
  · replace h := ite_t h c2
    refine lv_bipush (v := (-9)) hx hb dX2_first_10 (by decide) ?_
    obtain rfl := Option.some.inj h
    exact g_iret hx hb hr hK hP hD hS hQ dX2_first_12
