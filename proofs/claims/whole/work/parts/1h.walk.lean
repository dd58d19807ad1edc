theorem inX1_fits_X1 : ∀ w ∈ u_ws RX1 TX1 3, w ∈ wsX1_fits := by decide +kernel
theorem mX1_fits_0 : Cond.fieldLink RX1 18 "WarmBottles$Heard" "number" "I" ∈ wsX1_fits := List.mem_of_getElem? (i := 1) rfl
theorem mX1_fits_1 : Cond.fieldLink RX1 9 "WarmBottles$Heard" "hours" "[I" ∈ wsX1_fits := List.mem_of_getElem? (i := 2) rfl
theorem mX1_fits_2 : Cond.fieldLink RX1 15 "WarmBottles$Heard" "sounds" "[I" ∈ wsX1_fits := List.mem_of_getElem? (i := 3) rfl
def rm_X1_fits_C : Room := { frames := 7, cells := 0, slots := 0, locals := 330 }
def f_X1_fits_C_L2 (N : Nat) (k_2 : Int32 → Option (Int32)) (x2 : Int32) (I : (Nat → Int32)) (A : (Nat → Nat → Int32)) : Nat → Int32 → Option (Int32)
  | 0, _ => none
  | n_2 + 1, x3 => (if (I 18) ≤ x3 then (k_2 x3) else (if 6 ≤ x3 then (k_2 x3) else (if x3 < 0 ∨ 6 ≤ x3.toNatClampNeg then none else (Option.bind (f_X3_soundIn_C N I A x2 ((A 12) x3.toNatClampNeg)) (fun r4 => (if r4 = ((A 13) x3.toNatClampNeg) then (f_X1_fits_C_L2 N k_2 x2 I A n_2 (x3 + 1)) else some 0))))))
def f_X1_fits_C (N : Nat) (I : Nat → Int32) (A : Nat → Nat → Int32) (p2 : Int32) : Option (Int32) := (f_X1_fits_C_L2 N (fun (x3 : Int32) => some 1) p2 I A N 0)
set_option maxHeartbeats 4000000 in
set_option maxRecDepth 100000 in
theorem c_X1_fits_C (l : Launch) (dC : Nat → ClassId) (dI : Nat → Nat → Nat) (a : Nat → Nat) (cy : Nat → ClassId) (N : Nat) (I : Nat → Int32) (A : Nat → Nat → Int32) (T : Int64) (p2 : Int32) (res : Int32) (h : f_X1_fits_C N I A p2 = some res) (sz : Nat) : Met l yX1_fits wsX1_fits rm_X1_fits_C (g_Pre (dC, dI) cy [.ref (a 20), .ref (a 7), .int p2] (wC a cy I A T) sz) (g_Qi (dC, dI) cy res (wC a cy I A T) (wC a cy I A T) sz) 0 0 (va_A (wC a cy I A T) sz) := by
  unfold f_X1_fits_C at h
  refine g_entry _ _ _ _ _ _ (cc := cX1_fits) (maxL := 4) (ret := (some .boolean)) (by decide) rfl (Nat.le_of_ble_eq_true rfl) ?_
  intro p e s m args below meth c ls hx hb hml hown hts hr hlocks hA hK hP hD hS hl Q hQ
  have hl : lv_has ls 4 [(0, .ref (a 20)), (1, .ref (a 7)), (2, .int p2)] := hl
  have hown : s.vm.findClass RX1 = some m.cls := hown
  refine lv_iconst (v := 0) hx hb dX1_fits_0 (by decide) ?_
  refine lv_istore_n (lv' := [(3, .int 0), (0, .ref (a 20)), (1, .ref (a 7)), (2, .int p2)]) hx hb dX1_fits_1 rfl hl (by decide) rfl (fun ls hl => ?_)
  have lp2 : ∀ (x2 : Int32) (k_2 : Int32 → Option (Int32)), (∀ (x3 : Int32), k_2 x3 = some res → g_At (dC, dI) p l e (headSpec wsX1_fits rm_X1_fits_C).room s m args below meth c Q (wC a cy I A T) sz 4 (wC a cy I A T) [] 44 []) → ∀ (n_2 : Nat) (x3 : Int32), f_X1_fits_C_L2 N k_2 x2 I A n_2 x3 = some res → g_At (dC, dI) p l e (headSpec wsX1_fits rm_X1_fits_C).room s m args below meth c Q (wC a cy I A T) sz 4 (wC a cy I A T) [(0, .ref (a 20)), (1, .ref (a 7)), (2, .int x2), (3, .int x3)] 2 [] := by
    intro x2 k_2 hk_2 n_2
    induction n_2 with
    | zero =>
      intro x3 h
      exact absurd h (by rw [f_X1_fits_C_L2]; exact fun q => by cases q)
    | succ n_2 ih2 =>
      intro x3 h H locs hP hD hS ls hl
      rw [f_X1_fits_C_L2] at h
      refine lv_iload_n hx hb dX1_fits_2 rfl (lv_at hl 3 rfl) ?_
      refine lv_aload_n hx hb dX1_fits_3 rfl (lv_at hl 0 rfl) ?_
      refine va_get (D := (dC, dI)) (ci := 1) (v := .int (I 18)) (C := RX1) (T := TX1) (N := 3) hx hb hts inX1_fits_X1 hown hK hP 20 (eC_20 a cy I A T) rfl 2 (by decide) (hts _ mX1_fits_0) (fun _ h9 => h9) rfl dX1_fits_4 ?_
      refine lv_icmp_ge (tgt := 44) hx hb dX1_fits_7 (by decide) (fun c1 => ?_) (fun c1 => ?_)
      · replace h := ite_t h c1
        exact hk_2 _ h _ _ hP hD hS _ (lv_sub hl [] rfl)
      · replace h := ite_f h c1
        refine lv_iload_n hx hb dX1_fits_10 rfl (lv_at hl 3 rfl) ?_
        refine lv_bipush (v := 6) hx hb dX1_fits_11 (by decide) ?_
        refine lv_icmp_ge (tgt := 44) hx hb dX1_fits_13 (by decide) (fun c2 => ?_) (fun c2 => ?_)
        · replace h := ite_t h c2
          exact hk_2 _ h _ _ hP hD hS _ (lv_sub hl [] rfl)
        · replace h := ite_f h c2
          refine lv_aload_n hx hb dX1_fits_16 rfl (lv_at hl 1 rfl) ?_
          refine lv_iload_n hx hb dX1_fits_17 rfl (lv_at hl 2 rfl) ?_
          refine lv_aload_n hx hb dX1_fits_18 rfl (lv_at hl 0 rfl) ?_
          refine va_get (D := (dC, dI)) (ci := 1) (v := .ref (a 21)) (C := RX1) (T := TX1) (N := 3) hx hb hts inX1_fits_X1 hown hK hP 20 (eC_20 a cy I A T) rfl 0 (by decide) (hts _ mX1_fits_1) (fun _ h9 => h9) rfl dX1_fits_19 ?_
          refine lv_iload_n hx hb dX1_fits_22 rfl (lv_at hl 3 rfl) ?_
          obtain ⟨i3, h⟩ := inb_some h
          refine g_iald (f := (A 12)) (j := x3.toNatClampNeg) hx hb hK hP 21 (eC_21 a cy I A T) i3 rfl dX1_fits_23 ?_
          obtain ⟨r4, hr4, h⟩ := bnd_some h
          refine g_callVi (As := [.int x2, .int ((A 12) x3.toNatClampNeg)]) (rest := []) (ci := 3) (q0 := 7) hx hb hml hown hts (c_X3_soundIn_C l dC dI a cy N I A T x2 ((A 12) x3.toNatClampNeg) r4 hr4) (cwV 2 hts gX1_fits_X3_soundIn rfl rfl rfl (by decide +kernel) ⟨Nat.le_of_ble_eq_true rfl, Nat.le_of_ble_eq_true rfl⟩) hK hP hD hS hA rfl (eC_7 a cy I A T) rfl rfl hl.1 rfl (Nat.le_of_ble_eq_true rfl) dX1_fits_24 (fun H locs hP hD hS => ?_)
          refine lv_aload_n hx hb dX1_fits_27 rfl (lv_at hl 0 rfl) ?_
          refine va_get (D := (dC, dI)) (ci := 1) (v := .ref (a 22)) (C := RX1) (T := TX1) (N := 3) hx hb hts inX1_fits_X1 hown hK hP 20 (eC_20 a cy I A T) rfl 1 (by decide) (hts _ mX1_fits_2) (fun _ h9 => h9) rfl dX1_fits_28 ?_
          refine lv_iload_n hx hb dX1_fits_31 rfl (lv_at hl 3 rfl) ?_
          refine g_iald (f := (A 13)) (j := x3.toNatClampNeg) hx hb hK hP 22 (eC_22 a cy I A T) i3 rfl dX1_fits_32 ?_
          refine lv_icmp_eq (tgt := 38) hx hb dX1_fits_33 (by decide) (fun c5 => ?_) (fun c5 => ?_)
          · replace h := ite_t h c5
            refine lv_iinc (v := (x3 + 1)) (lv' := [(3, .int (x3 + 1)), (0, .ref (a 20)), (1, .ref (a 7)), (2, .int x2)]) hx hb dX1_fits_38 hl (k := 3) rfl rfl (by decide) rfl (fun ls hl => ?_)
            refine lv_goto (tgt := 2) hx hb dX1_fits_41 (by decide) ?_
            exact ih2 _ h _ _ hP hD hS _ (lv_sub hl [1, 2, 3, 0] rfl)
          · replace h := ite_f h c5
            refine lv_iconst (v := 0) hx hb dX1_fits_36 (by decide) ?_
            obtain rfl := Option.some.inj h
            exact g_zret hx hb hr (by decide) hK hP hD hS hQ dX1_fits_37
  refine lp2 _ _ ?_ N _ h _ _ hP hD hS _ (lv_sub hl [1, 2, 3, 0] rfl)
  intro x3 h H locs hP hD hS ls hl
  refine lv_iconst (v := 1) hx hb dX1_fits_44 (by decide) ?_
  obtain rfl := Option.some.inj h
  exact g_zret hx hb hr (by decide) hK hP hD hS hQ dX1_fits_45
theorem inX1_whoFits_X3 : ∀ w ∈ u_ws RX3 TX3 6, w ∈ wsX1_whoFits := by decide +kernel
theorem mX1_whoFits_0 : Cond.fieldLink RX1 22 "WarmBottles$Night" "told" "LWarmBottles$Told;" ∈ wsX1_whoFits := List.mem_of_getElem? (i := 1) rfl
theorem inX1_whoFits_X6 : ∀ w ∈ u_ws RX6 TX6 6, w ∈ wsX1_whoFits := by decide +kernel
theorem mX1_whoFits_1 : Cond.fieldLink RX1 28 "WarmBottles$Told" "bottles" "I" ∈ wsX1_whoFits := List.mem_of_getElem? (i := 2) rfl
def rm_X1_whoFits_C : Room := { frames := 9, cells := 0, slots := 0, locals := 390 }
def f_X1_whoFits_C_L4 (N : Nat) (k_4 : Int32 → Int32 → Option (Int32)) (I : (Nat → Int32)) (A : (Nat → Nat → Int32)) : Nat → Int32 → Int32 → Option (Int32)
  | 0, _, _ => none
  | n_4 + 1, x2, x3 => (if (I 13) ≤ x3 then (k_4 x2 x3) else (Option.bind (f_X1_fits_C N I A x3) (fun r2 => (if r2 = 0 then (f_X1_whoFits_C_L4 N k_4 I A n_4 x2 (x3 + 1)) else (f_X1_whoFits_C_L4 N k_4 I A n_4 (x2 ||| ((1 : Int32) <<< (x3 &&& 31))) (x3 + 1))))))
def f_X1_whoFits_C (N : Nat) (I : Nat → Int32) (A : Nat → Nat → Int32)  : Option (Int32) := (f_X1_whoFits_C_L4 N (fun (x2 : Int32) (x3 : Int32) => some x2) I A N 0 0)
set_option maxHeartbeats 4000000 in
set_option maxRecDepth 100000 in
theorem c_X1_whoFits_C (l : Launch) (dC : Nat → ClassId) (dI : Nat → Nat → Nat) (a : Nat → Nat) (cy : Nat → ClassId) (N : Nat) (I : Nat → Int32) (A : Nat → Nat → Int32) (T : Int64)  (res : Int32) (h : f_X1_whoFits_C N I A  = some res) (sz : Nat) : Met l yX1_whoFits wsX1_whoFits rm_X1_whoFits_C (g_Pre (dC, dI) cy [.ref (a 20), .ref (a 7)] (wC a cy I A T) sz) (g_Qi (dC, dI) cy res (wC a cy I A T) (wC a cy I A T) sz) 0 0 (va_A (wC a cy I A T) sz) := by
  unfold f_X1_whoFits_C at h
  refine g_entry _ _ _ _ _ _ (cc := cX1_whoFits) (maxL := 4) (ret := (some .int)) (by decide) rfl (Nat.le_of_ble_eq_true rfl) ?_
  intro p e s m args below meth c ls hx hb hml hown hts hr hlocks hA hK hP hD hS hl Q hQ
  have hl : lv_has ls 4 [(0, .ref (a 20)), (1, .ref (a 7))] := hl
  have hown : s.vm.findClass RX1 = some m.cls := hown
  refine lv_iconst (v := 0) hx hb dX1_whoFits_0 (by decide) ?_
  refine lv_istore_n (lv' := [(2, .int 0), (0, .ref (a 20)), (1, .ref (a 7))]) hx hb dX1_whoFits_1 rfl hl (by decide) rfl (fun ls hl => ?_)
  refine lv_iconst (v := 0) hx hb dX1_whoFits_2 (by decide) ?_
  refine lv_istore_n (lv' := [(3, .int 0), (2, .int 0), (0, .ref (a 20)), (1, .ref (a 7))]) hx hb dX1_whoFits_3 rfl hl (by decide) rfl (fun ls hl => ?_)
  have lp4 : ∀  (k_4 : Int32 → Int32 → Option (Int32)), (∀ (x2 : Int32) (x3 : Int32), k_4 x2 x3 = some res → g_At (dC, dI) p l e (headSpec wsX1_whoFits rm_X1_whoFits_C).room s m args below meth c Q (wC a cy I A T) sz 4 (wC a cy I A T) [(2, .int x2)] 36 []) → ∀ (n_4 : Nat) (x2 : Int32) (x3 : Int32), f_X1_whoFits_C_L4 N k_4 I A n_4 x2 x3 = some res → g_At (dC, dI) p l e (headSpec wsX1_whoFits rm_X1_whoFits_C).room s m args below meth c Q (wC a cy I A T) sz 4 (wC a cy I A T) [(0, .ref (a 20)), (1, .ref (a 7)), (2, .int x2), (3, .int x3)] 4 [] := by
    intro  k_4 hk_4 n_4
    induction n_4 with
    | zero =>
      intro x2 x3 h
      exact absurd h (by rw [f_X1_whoFits_C_L4]; exact fun q => by cases q)
    | succ n_4 ih4 =>
      intro x2 x3 h H locs hP hD hS ls hl
      rw [f_X1_whoFits_C_L4] at h
      refine lv_iload_n hx hb dX1_whoFits_4 rfl (lv_at hl 3 rfl) ?_
      refine lv_aload_n hx hb dX1_whoFits_5 rfl (lv_at hl 1 rfl) ?_
      refine va_get (D := (dC, dI)) (ci := 3) (v := .ref (a 8)) (C := RX3) (T := TX3) (N := 6) hx hb hts inX1_whoFits_X3 hown hK hP 7 (eC_7 a cy I A T) rfl 0 (by decide) (hts _ mX1_whoFits_0) (fun _ h9 => h9) rfl dX1_whoFits_6 ?_
      refine va_get (D := (dC, dI)) (ci := 6) (v := .int (I 13)) (C := RX6) (T := TX6) (N := 6) hx hb hts inX1_whoFits_X6 hown hK hP 8 (eC_8 a cy I A T) rfl 3 (by decide) (hts _ mX1_whoFits_1) (fun _ h9 => h9) rfl dX1_whoFits_9 ?_
      refine lv_icmp_ge (tgt := 36) hx hb dX1_whoFits_12 (by decide) (fun c1 => ?_) (fun c1 => ?_)
      · replace h := ite_t h c1
        exact hk_4 _ _ h _ _ hP hD hS _ (lv_sub hl [2] rfl)
      · replace h := ite_f h c1
        refine lv_aload_n hx hb dX1_whoFits_15 rfl (lv_at hl 0 rfl) ?_
        refine lv_aload_n hx hb dX1_whoFits_16 rfl (lv_at hl 1 rfl) ?_
        refine lv_iload_n hx hb dX1_whoFits_17 rfl (lv_at hl 3 rfl) ?_
        obtain ⟨r2, hr2, h⟩ := bnd_some h
        refine g_callVi (As := [.ref (a 7), .int x3]) (rest := []) (ci := 1) (q0 := 20) hx hb hml hown hts (c_X1_fits_C l dC dI a cy N I A T x3 r2 hr2) (cwV 2 hts gX1_whoFits_X1_fits rfl rfl rfl (by decide +kernel) ⟨Nat.le_of_ble_eq_true rfl, Nat.le_of_ble_eq_true rfl⟩) hK hP hD hS hA rfl (eC_20 a cy I A T) rfl rfl hl.1 rfl (Nat.le_of_ble_eq_true rfl) dX1_whoFits_18 (fun H locs hP hD hS => ?_)
        refine lv_if_eq (tgt := 30) hx hb dX1_whoFits_21 (by decide) (fun c3 => ?_) (fun c3 => ?_)
        · replace h := ite_t h c3
          refine lv_iinc (v := (x3 + 1)) (lv' := [(3, .int (x3 + 1)), (0, .ref (a 20)), (1, .ref (a 7)), (2, .int x2)]) hx hb dX1_whoFits_30 hl (k := 3) rfl rfl (by decide) rfl (fun ls hl => ?_)
          refine lv_goto (tgt := 4) hx hb dX1_whoFits_33 (by decide) ?_
          exact ih4 _ _ h _ _ hP hD hS _ (lv_sub hl [1, 2, 3, 0] rfl)
        · replace h := ite_f h c3
          refine lv_iload_n hx hb dX1_whoFits_24 rfl (lv_at hl 2 rfl) ?_
          refine lv_iconst (v := 1) hx hb dX1_whoFits_25 (by decide) ?_
          refine lv_iload_n hx hb dX1_whoFits_26 rfl (lv_at hl 3 rfl) ?_
          refine lv_ishl hx hb dX1_whoFits_27 ?_
          refine lv_ior hx hb dX1_whoFits_28 ?_
          refine lv_istore_n (lv' := [(2, .int (x2 ||| ((1 : Int32) <<< (x3 &&& 31)))), (0, .ref (a 20)), (1, .ref (a 7)), (3, .int x3)]) hx hb dX1_whoFits_29 rfl hl (by decide) rfl (fun ls hl => ?_)
          refine lv_iinc (v := (x3 + 1)) (lv' := [(3, .int (x3 + 1)), (2, .int (x2 ||| ((1 : Int32) <<< (x3 &&& 31)))), (0, .ref (a 20)), (1, .ref (a 7))]) hx hb dX1_whoFits_30 hl (k := 3) rfl rfl (by decide) rfl (fun ls hl => ?_)
          refine lv_goto (tgt := 4) hx hb dX1_whoFits_33 (by decide) ?_
          exact ih4 _ _ h _ _ hP hD hS _ (lv_sub hl [2, 3, 1, 0] rfl)
  refine lp4  _ ?_ N _ _ h _ _ hP hD hS _ (lv_sub hl [2, 3, 1, 0] rfl)
  intro x2 x3 h H locs hP hD hS ls hl
  refine lv_iload_n hx hb dX1_whoFits_36 rfl (lv_at hl 0 rfl) ?_
  obtain rfl := Option.some.inj h
  exact g_iret hx hb hr hK hP hD hS hQ dX1_whoFits_37
theorem inX7_who_X7 : ∀ w ∈ u_ws RX7 TX7 9, w ∈ wsX7_who := by decide +kernel
theorem mX7_who_0 : Cond.fieldLink RX7 53 "WarmBottles" "heard" "LWarmBottles$Heard;" ∈ wsX7_who := List.mem_of_getElem? (i := 1) rfl
theorem mX7_who_1 : Cond.fieldLink RX7 26 "WarmBottles" "night" "LWarmBottles$Night;" ∈ wsX7_who := List.mem_of_getElem? (i := 2) rfl
def rm_X7_who_C : Room := { frames := 11, cells := 0, slots := 0, locals := 450 }
def f_X7_who_C (N : Nat) (I : Nat → Int32) (A : Nat → Nat → Int32)  : Option (Int32) := (Option.bind (f_X1_whoFits_C N I A) (fun r1 => some r1))
set_option maxHeartbeats 4000000 in
set_option maxRecDepth 100000 in
theorem c_X7_who_C (l : Launch) (dC : Nat → ClassId) (dI : Nat → Nat → Nat) (a : Nat → Nat) (cy : Nat → ClassId) (N : Nat) (I : Nat → Int32) (A : Nat → Nat → Int32) (T : Int64)  (res : Int32) (h : f_X7_who_C N I A  = some res) (sz : Nat) : Met l yX7_who wsX7_who rm_X7_who_C (g_Pre (dC, dI) cy [.ref (a 0)] (wC a cy I A T) sz) (g_Qi (dC, dI) cy res (wC a cy I A T) (wC a cy I A T) sz) 0 0 (va_A (wC a cy I A T) sz) := by
  unfold f_X7_who_C at h
  refine g_entry _ _ _ _ _ _ (cc := cX7_who) (maxL := 1) (ret := (some .int)) (by decide) rfl (Nat.le_of_ble_eq_true rfl) ?_
  intro p e s m args below meth c ls hx hb hml hown hts hr hlocks hA hK hP hD hS hl Q hQ
  have hl : lv_has ls 1 [(0, .ref (a 0))] := hl
  have hown : s.vm.findClass RX7 = some m.cls := hown
  refine lv_aload_n hx hb dX7_who_0 rfl (lv_at hl 0 rfl) ?_
  refine va_get (D := (dC, dI)) (ci := 7) (v := .ref (a 20)) (C := RX7) (T := TX7) (N := 9) hx hb hts inX7_who_X7 hown hK hP 0 (eC_0 a cy I A T) rfl 6 (by decide) (hts _ mX7_who_0) (fun _ h9 => h9) rfl dX7_who_1 ?_
  refine lv_aload_n hx hb dX7_who_4 rfl (lv_at hl 0 rfl) ?_
  refine va_get (D := (dC, dI)) (ci := 7) (v := .ref (a 7)) (C := RX7) (T := TX7) (N := 9) hx hb hts inX7_who_X7 hown hK hP 0 (eC_0 a cy I A T) rfl 2 (by decide) (hts _ mX7_who_1) (fun _ h9 => h9) rfl dX7_who_5 ?_
  obtain ⟨r1, hr1, h⟩ := bnd_some h
  refine g_callVi (As := [.ref (a 7)]) (rest := []) (ci := 1) (q0 := 20) hx hb hml hown hts (c_X1_whoFits_C l dC dI a cy N I A T r1 hr1) (cwV 1 hts gX7_who_X1_whoFits rfl rfl rfl (by decide +kernel) ⟨Nat.le_of_ble_eq_true rfl, Nat.le_of_ble_eq_true rfl⟩) hK hP hD hS hA rfl (eC_20 a cy I A T) rfl rfl hl.1 rfl (Nat.le_of_ble_eq_true rfl) dX7_who_8 (fun H locs hP hD hS => ?_)
  obtain rfl := Option.some.inj h
  exact g_iret hx hb hr hK hP hD hS hQ dX7_who_11
theorem mJ6_bitCount_0f7a4_0 : Cond.constant RJ6 265 (1431655765) ∈ wsJ6_bitCount_0f7a4 := List.mem_of_getElem? (i := 1) rfl
theorem mJ6_bitCount_0f7a4_1 : Cond.constant RJ6 266 (858993459) ∈ wsJ6_bitCount_0f7a4 := List.mem_of_getElem? (i := 2) rfl
theorem mJ6_bitCount_0f7a4_2 : Cond.constant RJ6 267 (252645135) ∈ wsJ6_bitCount_0f7a4 := List.mem_of_getElem? (i := 3) rfl
def rm_J6_bitCount_0f7a4_C : Room := { frames := 3, cells := 0, slots := 0, locals := 210 }
def f_J6_bitCount_0f7a4_C (N : Nat) (I : Nat → Int32) (A : Nat → Nat → Int32) (p0 : Int32) : Option (Int32) := some ((((((((p0 - ((p0.toUInt32 >>> ((1 : Int32).toUInt32 &&& Int32.toUInt32 31)).toInt32 &&& 1431655765)) &&& 858993459) + (((p0 - ((p0.toUInt32 >>> ((1 : Int32).toUInt32 &&& Int32.toUInt32 31)).toInt32 &&& 1431655765)).toUInt32 >>> ((2 : Int32).toUInt32 &&& Int32.toUInt32 31)).toInt32 &&& 858993459)) + ((((p0 - ((p0.toUInt32 >>> ((1 : Int32).toUInt32 &&& Int32.toUInt32 31)).toInt32 &&& 1431655765)) &&& 858993459) + (((p0 - ((p0.toUInt32 >>> ((1 : Int32).toUInt32 &&& Int32.toUInt32 31)).toInt32 &&& 1431655765)).toUInt32 >>> ((2 : Int32).toUInt32 &&& Int32.toUInt32 31)).toInt32 &&& 858993459)).toUInt32 >>> ((4 : Int32).toUInt32 &&& Int32.toUInt32 31)).toInt32) &&& 252645135) + ((((((p0 - ((p0.toUInt32 >>> ((1 : Int32).toUInt32 &&& Int32.toUInt32 31)).toInt32 &&& 1431655765)) &&& 858993459) + (((p0 - ((p0.toUInt32 >>> ((1 : Int32).toUInt32 &&& Int32.toUInt32 31)).toInt32 &&& 1431655765)).toUInt32 >>> ((2 : Int32).toUInt32 &&& Int32.toUInt32 31)).toInt32 &&& 858993459)) + ((((p0 - ((p0.toUInt32 >>> ((1 : Int32).toUInt32 &&& Int32.toUInt32 31)).toInt32 &&& 1431655765)) &&& 858993459) + (((p0 - ((p0.toUInt32 >>> ((1 : Int32).toUInt32 &&& Int32.toUInt32 31)).toInt32 &&& 1431655765)).toUInt32 >>> ((2 : Int32).toUInt32 &&& Int32.toUInt32 31)).toInt32 &&& 858993459)).toUInt32 >>> ((4 : Int32).toUInt32 &&& Int32.toUInt32 31)).toInt32) &&& 252645135).toUInt32 >>> ((8 : Int32).toUInt32 &&& Int32.toUInt32 31)).toInt32) + (((((((p0 - ((p0.toUInt32 >>> ((1 : Int32).toUInt32 &&& Int32.toUInt32 31)).toInt32 &&& 1431655765)) &&& 858993459) + (((p0 - ((p0.toUInt32 >>> ((1 : Int32).toUInt32 &&& Int32.toUInt32 31)).toInt32 &&& 1431655765)).toUInt32 >>> ((2 : Int32).toUInt32 &&& Int32.toUInt32 31)).toInt32 &&& 858993459)) + ((((p0 - ((p0.toUInt32 >>> ((1 : Int32).toUInt32 &&& Int32.toUInt32 31)).toInt32 &&& 1431655765)) &&& 858993459) + (((p0 - ((p0.toUInt32 >>> ((1 : Int32).toUInt32 &&& Int32.toUInt32 31)).toInt32 &&& 1431655765)).toUInt32 >>> ((2 : Int32).toUInt32 &&& Int32.toUInt32 31)).toInt32 &&& 858993459)).toUInt32 >>> ((4 : Int32).toUInt32 &&& Int32.toUInt32 31)).toInt32) &&& 252645135) + ((((((p0 - ((p0.toUInt32 >>> ((1 : Int32).toUInt32 &&& Int32.toUInt32 31)).toInt32 &&& 1431655765)) &&& 858993459) + (((p0 - ((p0.toUInt32 >>> ((1 : Int32).toUInt32 &&& Int32.toUInt32 31)).toInt32 &&& 1431655765)).toUInt32 >>> ((2 : Int32).toUInt32 &&& Int32.toUInt32 31)).toInt32 &&& 858993459)) + ((((p0 - ((p0.toUInt32 >>> ((1 : Int32).toUInt32 &&& Int32.toUInt32 31)).toInt32 &&& 1431655765)) &&& 858993459) + (((p0 - ((p0.toUInt32 >>> ((1 : Int32).toUInt32 &&& Int32.toUInt32 31)).toInt32 &&& 1431655765)).toUInt32 >>> ((2 : Int32).toUInt32 &&& Int32.toUInt32 31)).toInt32 &&& 858993459)).toUInt32 >>> ((4 : Int32).toUInt32 &&& Int32.toUInt32 31)).toInt32) &&& 252645135).toUInt32 >>> ((8 : Int32).toUInt32 &&& Int32.toUInt32 31)).toInt32).toUInt32 >>> ((16 : Int32).toUInt32 &&& Int32.toUInt32 31)).toInt32) &&& 63)
set_option maxHeartbeats 4000000 in
set_option maxRecDepth 100000 in
theorem c_J6_bitCount_0f7a4_C (l : Launch) (dC : Nat → ClassId) (dI : Nat → Nat → Nat) (a : Nat → Nat) (cy : Nat → ClassId) (N : Nat) (I : Nat → Int32) (A : Nat → Nat → Int32) (T : Int64) (p0 : Int32) (res : Int32) (h : f_J6_bitCount_0f7a4_C N I A p0 = some res) (sz : Nat) : Met l yJ6_bitCount_0f7a4 wsJ6_bitCount_0f7a4 rm_J6_bitCount_0f7a4_C (g_Pre (dC, dI) cy [.int p0] (wC a cy I A T) sz) (g_Qi (dC, dI) cy res (wC a cy I A T) (wC a cy I A T) sz) 0 0 (va_A (wC a cy I A T) sz) := by
  unfold f_J6_bitCount_0f7a4_C at h
  refine g_entry _ _ _ _ _ _ (cc := cJ6_bitCount_0f7a4) (maxL := 1) (ret := (some .int)) (by decide) rfl (Nat.le_of_ble_eq_true rfl) ?_
  intro p e s m args below meth c ls hx hb hml hown hts hr hlocks hA hK hP hD hS hl Q hQ
  have hl : lv_has ls 1 [(0, .int p0)] := hl
  have hown : s.vm.findClass RJ6 = some m.cls := hown
  refine lv_iload_n hx hb dJ6_bitCount_0f7a4_0 rfl (lv_at hl 0 rfl) ?_
  refine lv_iload_n hx hb dJ6_bitCount_0f7a4_1 rfl (lv_at hl 0 rfl) ?_
  refine lv_iconst (v := 1) hx hb dJ6_bitCount_0f7a4_2 (by decide) ?_
  refine lv_iushr (v := (p0.toUInt32 >>> ((1 : Int32).toUInt32 &&& Int32.toUInt32 31)).toInt32) hx hb dJ6_bitCount_0f7a4_3 rfl ?_
  refine lv_ldcw (v := 1431655765) hx hb hown (hts _ mJ6_bitCount_0f7a4_0) dJ6_bitCount_0f7a4_4 ?_
  refine lv_iand hx hb dJ6_bitCount_0f7a4_7 ?_
  refine lv_isub hx hb dJ6_bitCount_0f7a4_8 ?_
  refine lv_istore_n (lv' := [(0, .int (p0 - ((p0.toUInt32 >>> ((1 : Int32).toUInt32 &&& Int32.toUInt32 31)).toInt32 &&& 1431655765)))]) hx hb dJ6_bitCount_0f7a4_9 rfl hl (by decide) rfl (fun ls hl => ?_)
  refine lv_iload_n hx hb dJ6_bitCount_0f7a4_10 rfl (lv_at hl 0 rfl) ?_
  refine lv_ldcw (v := 858993459) hx hb hown (hts _ mJ6_bitCount_0f7a4_1) dJ6_bitCount_0f7a4_11 ?_
  refine lv_iand hx hb dJ6_bitCount_0f7a4_14 ?_
  refine lv_iload_n hx hb dJ6_bitCount_0f7a4_15 rfl (lv_at hl 0 rfl) ?_
  refine lv_iconst (v := 2) hx hb dJ6_bitCount_0f7a4_16 (by decide) ?_
  refine lv_iushr (v := ((p0 - ((p0.toUInt32 >>> ((1 : Int32).toUInt32 &&& Int32.toUInt32 31)).toInt32 &&& 1431655765)).toUInt32 >>> ((2 : Int32).toUInt32 &&& Int32.toUInt32 31)).toInt32) hx hb dJ6_bitCount_0f7a4_17 rfl ?_
  refine lv_ldcw (v := 858993459) hx hb hown (hts _ mJ6_bitCount_0f7a4_1) dJ6_bitCount_0f7a4_18 ?_
  refine lv_iand hx hb dJ6_bitCount_0f7a4_21 ?_
  refine lv_iadd hx hb dJ6_bitCount_0f7a4_22 ?_
  refine lv_istore_n (lv' := [(0, .int (((p0 - ((p0.toUInt32 >>> ((1 : Int32).toUInt32 &&& Int32.toUInt32 31)).toInt32 &&& 1431655765)) &&& 858993459) + (((p0 - ((p0.toUInt32 >>> ((1 : Int32).toUInt32 &&& Int32.toUInt32 31)).toInt32 &&& 1431655765)).toUInt32 >>> ((2 : Int32).toUInt32 &&& Int32.toUInt32 31)).toInt32 &&& 858993459)))]) hx hb dJ6_bitCount_0f7a4_23 rfl hl (by decide) rfl (fun ls hl => ?_)
  refine lv_iload_n hx hb dJ6_bitCount_0f7a4_24 rfl (lv_at hl 0 rfl) ?_
  refine lv_iload_n hx hb dJ6_bitCount_0f7a4_25 rfl (lv_at hl 0 rfl) ?_
  refine lv_iconst (v := 4) hx hb dJ6_bitCount_0f7a4_26 (by decide) ?_
  refine lv_iushr (v := ((((p0 - ((p0.toUInt32 >>> ((1 : Int32).toUInt32 &&& Int32.toUInt32 31)).toInt32 &&& 1431655765)) &&& 858993459) + (((p0 - ((p0.toUInt32 >>> ((1 : Int32).toUInt32 &&& Int32.toUInt32 31)).toInt32 &&& 1431655765)).toUInt32 >>> ((2 : Int32).toUInt32 &&& Int32.toUInt32 31)).toInt32 &&& 858993459)).toUInt32 >>> ((4 : Int32).toUInt32 &&& Int32.toUInt32 31)).toInt32) hx hb dJ6_bitCount_0f7a4_27 rfl ?_
  refine lv_iadd hx hb dJ6_bitCount_0f7a4_28 ?_
  refine lv_ldcw (v := 252645135) hx hb hown (hts _ mJ6_bitCount_0f7a4_2) dJ6_bitCount_0f7a4_29 ?_
  refine lv_iand hx hb dJ6_bitCount_0f7a4_32 ?_
  refine lv_istore_n (lv' := [(0, .int (((((p0 - ((p0.toUInt32 >>> ((1 : Int32).toUInt32 &&& Int32.toUInt32 31)).toInt32 &&& 1431655765)) &&& 858993459) + (((p0 - ((p0.toUInt32 >>> ((1 : Int32).toUInt32 &&& Int32.toUInt32 31)).toInt32 &&& 1431655765)).toUInt32 >>> ((2 : Int32).toUInt32 &&& Int32.toUInt32 31)).toInt32 &&& 858993459)) + ((((p0 - ((p0.toUInt32 >>> ((1 : Int32).toUInt32 &&& Int32.toUInt32 31)).toInt32 &&& 1431655765)) &&& 858993459) + (((p0 - ((p0.toUInt32 >>> ((1 : Int32).toUInt32 &&& Int32.toUInt32 31)).toInt32 &&& 1431655765)).toUInt32 >>> ((2 : Int32).toUInt32 &&& Int32.toUInt32 31)).toInt32 &&& 858993459)).toUInt32 >>> ((4 : Int32).toUInt32 &&& Int32.toUInt32 31)).toInt32) &&& 252645135))]) hx hb dJ6_bitCount_0f7a4_33 rfl hl (by decide) rfl (fun ls hl => ?_)
  refine lv_iload_n hx hb dJ6_bitCount_0f7a4_34 rfl (lv_at hl 0 rfl) ?_
  refine lv_iload_n hx hb dJ6_bitCount_0f7a4_35 rfl (lv_at hl 0 rfl) ?_
  refine lv_bipush (v := 8) hx hb dJ6_bitCount_0f7a4_36 (by decide) ?_
  refine lv_iushr (v := ((((((p0 - ((p0.toUInt32 >>> ((1 : Int32).toUInt32 &&& Int32.toUInt32 31)).toInt32 &&& 1431655765)) &&& 858993459) + (((p0 - ((p0.toUInt32 >>> ((1 : Int32).toUInt32 &&& Int32.toUInt32 31)).toInt32 &&& 1431655765)).toUInt32 >>> ((2 : Int32).toUInt32 &&& Int32.toUInt32 31)).toInt32 &&& 858993459)) + ((((p0 - ((p0.toUInt32 >>> ((1 : Int32).toUInt32 &&& Int32.toUInt32 31)).toInt32 &&& 1431655765)) &&& 858993459) + (((p0 - ((p0.toUInt32 >>> ((1 : Int32).toUInt32 &&& Int32.toUInt32 31)).toInt32 &&& 1431655765)).toUInt32 >>> ((2 : Int32).toUInt32 &&& Int32.toUInt32 31)).toInt32 &&& 858993459)).toUInt32 >>> ((4 : Int32).toUInt32 &&& Int32.toUInt32 31)).toInt32) &&& 252645135).toUInt32 >>> ((8 : Int32).toUInt32 &&& Int32.toUInt32 31)).toInt32) hx hb dJ6_bitCount_0f7a4_38 rfl ?_
  refine lv_iadd hx hb dJ6_bitCount_0f7a4_39 ?_
  refine lv_istore_n (lv' := [(0, .int ((((((p0 - ((p0.toUInt32 >>> ((1 : Int32).toUInt32 &&& Int32.toUInt32 31)).toInt32 &&& 1431655765)) &&& 858993459) + (((p0 - ((p0.toUInt32 >>> ((1 : Int32).toUInt32 &&& Int32.toUInt32 31)).toInt32 &&& 1431655765)).toUInt32 >>> ((2 : Int32).toUInt32 &&& Int32.toUInt32 31)).toInt32 &&& 858993459)) + ((((p0 - ((p0.toUInt32 >>> ((1 : Int32).toUInt32 &&& Int32.toUInt32 31)).toInt32 &&& 1431655765)) &&& 858993459) + (((p0 - ((p0.toUInt32 >>> ((1 : Int32).toUInt32 &&& Int32.toUInt32 31)).toInt32 &&& 1431655765)).toUInt32 >>> ((2 : Int32).toUInt32 &&& Int32.toUInt32 31)).toInt32 &&& 858993459)).toUInt32 >>> ((4 : Int32).toUInt32 &&& Int32.toUInt32 31)).toInt32) &&& 252645135) + ((((((p0 - ((p0.toUInt32 >>> ((1 : Int32).toUInt32 &&& Int32.toUInt32 31)).toInt32 &&& 1431655765)) &&& 858993459) + (((p0 - ((p0.toUInt32 >>> ((1 : Int32).toUInt32 &&& Int32.toUInt32 31)).toInt32 &&& 1431655765)).toUInt32 >>> ((2 : Int32).toUInt32 &&& Int32.toUInt32 31)).toInt32 &&& 858993459)) + ((((p0 - ((p0.toUInt32 >>> ((1 : Int32).toUInt32 &&& Int32.toUInt32 31)).toInt32 &&& 1431655765)) &&& 858993459) + (((p0 - ((p0.toUInt32 >>> ((1 : Int32).toUInt32 &&& Int32.toUInt32 31)).toInt32 &&& 1431655765)).toUInt32 >>> ((2 : Int32).toUInt32 &&& Int32.toUInt32 31)).toInt32 &&& 858993459)).toUInt32 >>> ((4 : Int32).toUInt32 &&& Int32.toUInt32 31)).toInt32) &&& 252645135).toUInt32 >>> ((8 : Int32).toUInt32 &&& Int32.toUInt32 31)).toInt32))]) hx hb dJ6_bitCount_0f7a4_40 rfl hl (by decide) rfl (fun ls hl => ?_)
  refine lv_iload_n hx hb dJ6_bitCount_0f7a4_41 rfl (lv_at hl 0 rfl) ?_
  refine lv_iload_n hx hb dJ6_bitCount_0f7a4_42 rfl (lv_at hl 0 rfl) ?_
  refine lv_bipush (v := 16) hx hb dJ6_bitCount_0f7a4_43 (by decide) ?_
  refine lv_iushr (v := (((((((p0 - ((p0.toUInt32 >>> ((1 : Int32).toUInt32 &&& Int32.toUInt32 31)).toInt32 &&& 1431655765)) &&& 858993459) + (((p0 - ((p0.toUInt32 >>> ((1 : Int32).toUInt32 &&& Int32.toUInt32 31)).toInt32 &&& 1431655765)).toUInt32 >>> ((2 : Int32).toUInt32 &&& Int32.toUInt32 31)).toInt32 &&& 858993459)) + ((((p0 - ((p0.toUInt32 >>> ((1 : Int32).toUInt32 &&& Int32.toUInt32 31)).toInt32 &&& 1431655765)) &&& 858993459) + (((p0 - ((p0.toUInt32 >>> ((1 : Int32).toUInt32 &&& Int32.toUInt32 31)).toInt32 &&& 1431655765)).toUInt32 >>> ((2 : Int32).toUInt32 &&& Int32.toUInt32 31)).toInt32 &&& 858993459)).toUInt32 >>> ((4 : Int32).toUInt32 &&& Int32.toUInt32 31)).toInt32) &&& 252645135) + ((((((p0 - ((p0.toUInt32 >>> ((1 : Int32).toUInt32 &&& Int32.toUInt32 31)).toInt32 &&& 1431655765)) &&& 858993459) + (((p0 - ((p0.toUInt32 >>> ((1 : Int32).toUInt32 &&& Int32.toUInt32 31)).toInt32 &&& 1431655765)).toUInt32 >>> ((2 : Int32).toUInt32 &&& Int32.toUInt32 31)).toInt32 &&& 858993459)) + ((((p0 - ((p0.toUInt32 >>> ((1 : Int32).toUInt32 &&& Int32.toUInt32 31)).toInt32 &&& 1431655765)) &&& 858993459) + (((p0 - ((p0.toUInt32 >>> ((1 : Int32).toUInt32 &&& Int32.toUInt32 31)).toInt32 &&& 1431655765)).toUInt32 >>> ((2 : Int32).toUInt32 &&& Int32.toUInt32 31)).toInt32 &&& 858993459)).toUInt32 >>> ((4 : Int32).toUInt32 &&& Int32.toUInt32 31)).toInt32) &&& 252645135).toUInt32 >>> ((8 : Int32).toUInt32 &&& Int32.toUInt32 31)).toInt32).toUInt32 >>> ((16 : Int32).toUInt32 &&& Int32.toUInt32 31)).toInt32) hx hb dJ6_bitCount_0f7a4_45 rfl ?_
  refine lv_iadd hx hb dJ6_bitCount_0f7a4_46 ?_
  refine lv_istore_n (lv' := [(0, .int (((((((p0 - ((p0.toUInt32 >>> ((1 : Int32).toUInt32 &&& Int32.toUInt32 31)).toInt32 &&& 1431655765)) &&& 858993459) + (((p0 - ((p0.toUInt32 >>> ((1 : Int32).toUInt32 &&& Int32.toUInt32 31)).toInt32 &&& 1431655765)).toUInt32 >>> ((2 : Int32).toUInt32 &&& Int32.toUInt32 31)).toInt32 &&& 858993459)) + ((((p0 - ((p0.toUInt32 >>> ((1 : Int32).toUInt32 &&& Int32.toUInt32 31)).toInt32 &&& 1431655765)) &&& 858993459) + (((p0 - ((p0.toUInt32 >>> ((1 : Int32).toUInt32 &&& Int32.toUInt32 31)).toInt32 &&& 1431655765)).toUInt32 >>> ((2 : Int32).toUInt32 &&& Int32.toUInt32 31)).toInt32 &&& 858993459)).toUInt32 >>> ((4 : Int32).toUInt32 &&& Int32.toUInt32 31)).toInt32) &&& 252645135) + ((((((p0 - ((p0.toUInt32 >>> ((1 : Int32).toUInt32 &&& Int32.toUInt32 31)).toInt32 &&& 1431655765)) &&& 858993459) + (((p0 - ((p0.toUInt32 >>> ((1 : Int32).toUInt32 &&& Int32.toUInt32 31)).toInt32 &&& 1431655765)).toUInt32 >>> ((2 : Int32).toUInt32 &&& Int32.toUInt32 31)).toInt32 &&& 858993459)) + ((((p0 - ((p0.toUInt32 >>> ((1 : Int32).toUInt32 &&& Int32.toUInt32 31)).toInt32 &&& 1431655765)) &&& 858993459) + (((p0 - ((p0.toUInt32 >>> ((1 : Int32).toUInt32 &&& Int32.toUInt32 31)).toInt32 &&& 1431655765)).toUInt32 >>> ((2 : Int32).toUInt32 &&& Int32.toUInt32 31)).toInt32 &&& 858993459)).toUInt32 >>> ((4 : Int32).toUInt32 &&& Int32.toUInt32 31)).toInt32) &&& 252645135).toUInt32 >>> ((8 : Int32).toUInt32 &&& Int32.toUInt32 31)).toInt32) + (((((((p0 - ((p0.toUInt32 >>> ((1 : Int32).toUInt32 &&& Int32.toUInt32 31)).toInt32 &&& 1431655765)) &&& 858993459) + (((p0 - ((p0.toUInt32 >>> ((1 : Int32).toUInt32 &&& Int32.toUInt32 31)).toInt32 &&& 1431655765)).toUInt32 >>> ((2 : Int32).toUInt32 &&& Int32.toUInt32 31)).toInt32 &&& 858993459)) + ((((p0 - ((p0.toUInt32 >>> ((1 : Int32).toUInt32 &&& Int32.toUInt32 31)).toInt32 &&& 1431655765)) &&& 858993459) + (((p0 - ((p0.toUInt32 >>> ((1 : Int32).toUInt32 &&& Int32.toUInt32 31)).toInt32 &&& 1431655765)).toUInt32 >>> ((2 : Int32).toUInt32 &&& Int32.toUInt32 31)).toInt32 &&& 858993459)).toUInt32 >>> ((4 : Int32).toUInt32 &&& Int32.toUInt32 31)).toInt32) &&& 252645135) + ((((((p0 - ((p0.toUInt32 >>> ((1 : Int32).toUInt32 &&& Int32.toUInt32 31)).toInt32 &&& 1431655765)) &&& 858993459) + (((p0 - ((p0.toUInt32 >>> ((1 : Int32).toUInt32 &&& Int32.toUInt32 31)).toInt32 &&& 1431655765)).toUInt32 >>> ((2 : Int32).toUInt32 &&& Int32.toUInt32 31)).toInt32 &&& 858993459)) + ((((p0 - ((p0.toUInt32 >>> ((1 : Int32).toUInt32 &&& Int32.toUInt32 31)).toInt32 &&& 1431655765)) &&& 858993459) + (((p0 - ((p0.toUInt32 >>> ((1 : Int32).toUInt32 &&& Int32.toUInt32 31)).toInt32 &&& 1431655765)).toUInt32 >>> ((2 : Int32).toUInt32 &&& Int32.toUInt32 31)).toInt32 &&& 858993459)).toUInt32 >>> ((4 : Int32).toUInt32 &&& Int32.toUInt32 31)).toInt32) &&& 252645135).toUInt32 >>> ((8 : Int32).toUInt32 &&& Int32.toUInt32 31)).toInt32).toUInt32 >>> ((16 : Int32).toUInt32 &&& Int32.toUInt32 31)).toInt32))]) hx hb dJ6_bitCount_0f7a4_47 rfl hl (by decide) rfl (fun ls hl => ?_)
  refine lv_iload_n hx hb dJ6_bitCount_0f7a4_48 rfl (lv_at hl 0 rfl) ?_
  refine lv_bipush (v := 63) hx hb dJ6_bitCount_0f7a4_49 (by decide) ?_
  refine lv_iand hx hb dJ6_bitCount_0f7a4_51 ?_
  obtain rfl := Option.some.inj h
  exact g_iret hx hb hr hK hP hD hS hQ dJ6_bitCount_0f7a4_52
theorem mX3_mostOfOneSound_0 : Cond.methodLink RX3 47 Lib.Math.max.name ∈ wsX3_mostOfOneSound := List.mem_of_getElem? (i := 3) rfl
theorem mX3_mostOfOneSound_1 : Cond.static Lib.Math.max.name ∈ wsX3_mostOfOneSound := List.mem_of_getElem? (i := 4) rfl
theorem mX3_mostOfOneSound_2 : Cond.initialized "java/lang/Math" ∈ wsX3_mostOfOneSound := List.mem_of_getElem? (i := 5) rfl
theorem mX3_mostOfOneSound_3 : Cond.code Lib.Math.max.name Lib.Math.max.code 2 (some .int) ∈ wsX3_mostOfOneSound := List.mem_of_getElem? (i := 6) rfl
theorem inX3_mostOfOneSound_X3 : ∀ w ∈ u_ws RX3 TX3 6, w ∈ wsX3_mostOfOneSound := by decide +kernel
theorem mX3_mostOfOneSound_4 : Cond.fieldLink RX3 12 "WarmBottles$Night" "told" "LWarmBottles$Told;" ∈ wsX3_mostOfOneSound := List.mem_of_getElem? (i := 1) rfl
theorem inX3_mostOfOneSound_X6 : ∀ w ∈ u_ws RX6 TX6 6, w ∈ wsX3_mostOfOneSound := by decide +kernel
theorem mX3_mostOfOneSound_5 : Cond.fieldLink RX3 40 "WarmBottles$Told" "bottles" "I" ∈ wsX3_mostOfOneSound := List.mem_of_getElem? (i := 2) rfl
def rm_X3_mostOfOneSound_C : Room := { frames := 7, cells := 0, slots := 0, locals := 330 }
def f_X3_mostOfOneSound_C_L17 (N : Nat) (k_17 : Int32 → Int32 → Option (Int32)) (x1 : Int32) (x2 : Int32) (x3 : Int32) (x4 : Int32) (I : (Nat → Int32)) (A : (Nat → Nat → Int32)) : Nat → Int32 → Int32 → Option (Int32)
  | 0, _, _ => none
  | n_17 + 1, x5, x6 => (if (I 13) ≤ x6 then (k_17 x5 x6) else (if ((x1 >>> (x6 &&& 31)) &&& 1) = 1 then (Option.bind (f_X3_soundIn_C N I A x6 x2) (fun r4 => (if r4 = x4 then (f_X3_mostOfOneSound_C_L17 N k_17 x1 x2 x3 x4 I A n_17 (x5 + 1) (x6 + 1)) else (f_X3_mostOfOneSound_C_L17 N k_17 x1 x2 x3 x4 I A n_17 x5 (x6 + 1))))) else (f_X3_mostOfOneSound_C_L17 N k_17 x1 x2 x3 x4 I A n_17 x5 (x6 + 1))))
def f_X3_mostOfOneSound_C_L5 (N : Nat) (k_5 : Int32 → Int32 → Option (Int32)) (x1 : Int32) (x2 : Int32) (I : (Nat → Int32)) (A : (Nat → Nat → Int32)) : Nat → Int32 → Int32 → Option (Int32)
  | 0, _, _ => none
  | n_5 + 1, x3, x4 => (if 2 < x4 then (k_5 x3 x4) else (f_X3_mostOfOneSound_C_L17 N (fun (x5 : Int32) (x6 : Int32) => (f_X3_mostOfOneSound_C_L5 N k_5 x1 x2 I A n_5 (iMax x3 x5) (x4 + 1))) x1 x2 x3 x4 I A N 0 0))
def f_X3_mostOfOneSound_C (N : Nat) (I : Nat → Int32) (A : Nat → Nat → Int32) (p1 : Int32) (p2 : Int32) : Option (Int32) := (f_X3_mostOfOneSound_C_L5 N (fun (x3 : Int32) (x4 : Int32) => some x3) p1 p2 I A N 0 0)
set_option maxHeartbeats 4000000 in
set_option maxRecDepth 100000 in
theorem c_X3_mostOfOneSound_C (l : Launch) (dC : Nat → ClassId) (dI : Nat → Nat → Nat) (a : Nat → Nat) (cy : Nat → ClassId) (N : Nat) (I : Nat → Int32) (A : Nat → Nat → Int32) (T : Int64) (p1 : Int32) (p2 : Int32) (res : Int32) (h : f_X3_mostOfOneSound_C N I A p1 p2 = some res) (sz : Nat) : Met l yX3_mostOfOneSound wsX3_mostOfOneSound rm_X3_mostOfOneSound_C (g_Pre (dC, dI) cy [.ref (a 7), .int p1, .int p2] (wC a cy I A T) sz) (g_Qi (dC, dI) cy res (wC a cy I A T) (wC a cy I A T) sz) 0 0 (va_A (wC a cy I A T) sz) := by
  unfold f_X3_mostOfOneSound_C at h
  refine g_entry _ _ _ _ _ _ (cc := cX3_mostOfOneSound) (maxL := 7) (ret := (some .int)) (by decide) rfl (Nat.le_of_ble_eq_true rfl) ?_
  intro p e s m args below meth c ls hx hb hml hown hts hr hlocks hA hK hP hD hS hl Q hQ
  have hl : lv_has ls 7 [(0, .ref (a 7)), (1, .int p1), (2, .int p2)] := hl
  have hown : s.vm.findClass RX3 = some m.cls := hown
  refine lv_iconst (v := 0) hx hb dX3_mostOfOneSound_0 (by decide) ?_
  refine lv_istore_n (lv' := [(3, .int 0), (0, .ref (a 7)), (1, .int p1), (2, .int p2)]) hx hb dX3_mostOfOneSound_1 rfl hl (by decide) rfl (fun ls hl => ?_)
  refine lv_iconst (v := 0) hx hb dX3_mostOfOneSound_2 (by decide) ?_
  refine lv_istore (lv' := [(4, .int 0), (3, .int 0), (0, .ref (a 7)), (1, .int p1), (2, .int p2)]) hx hb dX3_mostOfOneSound_3 hl (by decide) rfl (fun ls hl => ?_)
  have lp5 : ∀ (x1 : Int32) (x2 : Int32) (k_5 : Int32 → Int32 → Option (Int32)), (∀ (x3 : Int32) (x4 : Int32), k_5 x3 x4 = some res → g_At (dC, dI) p l e (headSpec wsX3_mostOfOneSound rm_X3_mostOfOneSound_C).room s m args below meth c Q (wC a cy I A T) sz 7 (wC a cy I A T) [(3, .int x3)] 73 []) → ∀ (n_5 : Nat) (x3 : Int32) (x4 : Int32), f_X3_mostOfOneSound_C_L5 N k_5 x1 x2 I A n_5 x3 x4 = some res → g_At (dC, dI) p l e (headSpec wsX3_mostOfOneSound rm_X3_mostOfOneSound_C).room s m args below meth c Q (wC a cy I A T) sz 7 (wC a cy I A T) [(0, .ref (a 7)), (1, .int x1), (2, .int x2), (3, .int x3), (4, .int x4)] 5 [] := by
    intro x1 x2 k_5 hk_5 n_5
    induction n_5 with
    | zero =>
      intro x3 x4 h
      exact absurd h (by rw [f_X3_mostOfOneSound_C_L5]; exact fun q => by cases q)
    | succ n_5 ih5 =>
      intro x3 x4 h H locs hP hD hS ls hl
      rw [f_X3_mostOfOneSound_C_L5] at h
      refine lv_iload hx hb dX3_mostOfOneSound_5 (lv_at hl 4 rfl) ?_
      refine lv_iconst (v := 2) hx hb dX3_mostOfOneSound_7 (by decide) ?_
      refine lv_icmp_gt (tgt := 73) hx hb dX3_mostOfOneSound_8 (by decide) (fun c1 => ?_) (fun c1 => ?_)
      · replace h := ite_t h c1
        exact hk_5 _ _ h _ _ hP hD hS _ (lv_sub hl [3] rfl)
      · replace h := ite_f h c1
        refine lv_iconst (v := 0) hx hb dX3_mostOfOneSound_11 (by decide) ?_
        refine lv_istore (lv' := [(5, .int 0), (0, .ref (a 7)), (1, .int x1), (2, .int x2), (3, .int x3), (4, .int x4)]) hx hb dX3_mostOfOneSound_12 hl (by decide) rfl (fun ls hl => ?_)
        refine lv_iconst (v := 0) hx hb dX3_mostOfOneSound_14 (by decide) ?_
        refine lv_istore (lv' := [(6, .int 0), (5, .int 0), (0, .ref (a 7)), (1, .int x1), (2, .int x2), (3, .int x3), (4, .int x4)]) hx hb dX3_mostOfOneSound_15 hl (by decide) rfl (fun ls hl => ?_)
        have lp17 : ∀ (x1 : Int32) (x2 : Int32) (x3 : Int32) (x4 : Int32) (k_17 : Int32 → Int32 → Option (Int32)), (∀ (x5 : Int32) (x6 : Int32), k_17 x5 x6 = some res → g_At (dC, dI) p l e (headSpec wsX3_mostOfOneSound rm_X3_mostOfOneSound_C).room s m args below meth c Q (wC a cy I A T) sz 7 (wC a cy I A T) [(0, .ref (a 7)), (1, .int x1), (2, .int x2), (3, .int x3), (4, .int x4), (5, .int x5)] 60 []) → ∀ (n_17 : Nat) (x5 : Int32) (x6 : Int32), f_X3_mostOfOneSound_C_L17 N k_17 x1 x2 x3 x4 I A n_17 x5 x6 = some res → g_At (dC, dI) p l e (headSpec wsX3_mostOfOneSound rm_X3_mostOfOneSound_C).room s m args below meth c Q (wC a cy I A T) sz 7 (wC a cy I A T) [(0, .ref (a 7)), (1, .int x1), (2, .int x2), (3, .int x3), (4, .int x4), (5, .int x5), (6, .int x6)] 17 [] := by
          intro x1 x2 x3 x4 k_17 hk_17 n_17
          induction n_17 with
          | zero =>
            intro x5 x6 h
            exact absurd h (by rw [f_X3_mostOfOneSound_C_L17]; exact fun q => by cases q)
          | succ n_17 ih17 =>
            intro x5 x6 h H locs hP hD hS ls hl
            rw [f_X3_mostOfOneSound_C_L17] at h
            refine lv_iload hx hb dX3_mostOfOneSound_17 (lv_at hl 6 rfl) ?_
            refine lv_aload_n hx hb dX3_mostOfOneSound_19 rfl (lv_at hl 0 rfl) ?_
            refine va_get (D := (dC, dI)) (ci := 3) (v := .ref (a 8)) (C := RX3) (T := TX3) (N := 6) hx hb hts inX3_mostOfOneSound_X3 hown hK hP 7 (eC_7 a cy I A T) rfl 0 (by decide) (hts _ mX3_mostOfOneSound_4) (fun _ h9 => h9) rfl dX3_mostOfOneSound_20 ?_
            refine va_get (D := (dC, dI)) (ci := 6) (v := .int (I 13)) (C := RX6) (T := TX6) (N := 6) hx hb hts inX3_mostOfOneSound_X6 hown hK hP 8 (eC_8 a cy I A T) rfl 3 (by decide) (hts _ mX3_mostOfOneSound_5) (fun _ h9 => h9) rfl dX3_mostOfOneSound_23 ?_
            refine lv_icmp_ge (tgt := 60) hx hb dX3_mostOfOneSound_26 (by decide) (fun c2 => ?_) (fun c2 => ?_)
            · replace h := ite_t h c2
              exact hk_17 _ _ h _ _ hP hD hS _ (lv_sub hl [0, 1, 2, 3, 4, 5] rfl)
            · replace h := ite_f h c2
              refine lv_iload_n hx hb dX3_mostOfOneSound_29 rfl (lv_at hl 1 rfl) ?_
              refine lv_iload hx hb dX3_mostOfOneSound_30 (lv_at hl 6 rfl) ?_
              refine lv_ishr hx hb dX3_mostOfOneSound_32 ?_
              refine lv_iconst (v := 1) hx hb dX3_mostOfOneSound_33 (by decide) ?_
              refine lv_iand hx hb dX3_mostOfOneSound_34 ?_
              refine lv_iconst (v := 1) hx hb dX3_mostOfOneSound_35 (by decide) ?_
              refine lv_icmp_ne (tgt := 54) hx hb dX3_mostOfOneSound_36 (by decide) (fun c3 => ?_) (fun c3 => ?_)
              · replace h := ite_f h c3
                refine lv_iinc (v := (x6 + 1)) (lv' := [(6, .int (x6 + 1)), (0, .ref (a 7)), (1, .int x1), (2, .int x2), (3, .int x3), (4, .int x4), (5, .int x5)]) hx hb dX3_mostOfOneSound_54 hl (k := 6) rfl rfl (by decide) rfl (fun ls hl => ?_)
                refine lv_goto (tgt := 17) hx hb dX3_mostOfOneSound_57 (by decide) ?_
                exact ih17 _ _ h _ _ hP hD hS _ (lv_sub hl [1, 2, 3, 4, 5, 6, 0] rfl)
              · replace h := ite_t h c3
                refine lv_aload_n hx hb dX3_mostOfOneSound_39 rfl (lv_at hl 0 rfl) ?_
                refine lv_iload hx hb dX3_mostOfOneSound_40 (lv_at hl 6 rfl) ?_
                refine lv_iload_n hx hb dX3_mostOfOneSound_42 rfl (lv_at hl 2 rfl) ?_
                obtain ⟨r4, hr4, h⟩ := bnd_some h
                refine g_callVi (As := [.int x6, .int x2]) (rest := []) (ci := 3) (q0 := 7) hx hb hml hown hts (c_X3_soundIn_C l dC dI a cy N I A T x6 x2 r4 hr4) (cwV 2 hts gX3_mostOfOneSound_X3_soundIn rfl rfl rfl (by decide +kernel) ⟨Nat.le_of_ble_eq_true rfl, Nat.le_of_ble_eq_true rfl⟩) hK hP hD hS hA rfl (eC_7 a cy I A T) rfl rfl hl.1 rfl (Nat.le_of_ble_eq_true rfl) dX3_mostOfOneSound_43 (fun H locs hP hD hS => ?_)
                refine lv_iload hx hb dX3_mostOfOneSound_46 (lv_at hl 4 rfl) ?_
                refine lv_icmp_ne (tgt := 54) hx hb dX3_mostOfOneSound_48 (by decide) (fun c5 => ?_) (fun c5 => ?_)
                · replace h := ite_f h c5
                  refine lv_iinc (v := (x6 + 1)) (lv' := [(6, .int (x6 + 1)), (0, .ref (a 7)), (1, .int x1), (2, .int x2), (3, .int x3), (4, .int x4), (5, .int x5)]) hx hb dX3_mostOfOneSound_54 hl (k := 6) rfl rfl (by decide) rfl (fun ls hl => ?_)
                  refine lv_goto (tgt := 17) hx hb dX3_mostOfOneSound_57 (by decide) ?_
                  exact ih17 _ _ h _ _ hP hD hS _ (lv_sub hl [1, 2, 3, 4, 5, 6, 0] rfl)
                · replace h := ite_t h c5
                  refine lv_iinc (v := (x5 + 1)) (lv' := [(5, .int (x5 + 1)), (0, .ref (a 7)), (1, .int x1), (2, .int x2), (3, .int x3), (4, .int x4), (6, .int x6)]) hx hb dX3_mostOfOneSound_51 hl (k := 5) rfl rfl (by decide) rfl (fun ls hl => ?_)
                  refine lv_iinc (v := (x6 + 1)) (lv' := [(6, .int (x6 + 1)), (5, .int (x5 + 1)), (0, .ref (a 7)), (1, .int x1), (2, .int x2), (3, .int x3), (4, .int x4)]) hx hb dX3_mostOfOneSound_54 hl (k := 6) rfl rfl (by decide) rfl (fun ls hl => ?_)
                  refine lv_goto (tgt := 17) hx hb dX3_mostOfOneSound_57 (by decide) ?_
                  exact ih17 _ _ h _ _ hP hD hS _ (lv_sub hl [2, 3, 4, 5, 6, 1, 0] rfl)
        refine lp17 _ _ _ _ _ ?_ N _ _ h _ _ hP hD hS _ (lv_sub hl [2, 3, 4, 5, 6, 1, 0] rfl)
        intro x5 x6 h H locs hP hD hS ls hl
        refine lv_iload_n hx hb dX3_mostOfOneSound_60 rfl (lv_at hl 3 rfl) ?_
        refine lv_iload hx hb dX3_mostOfOneSound_61 (lv_at hl 5 rfl) ?_
        refine g_mmax hx hb (hml.trans hl.1.symm) hown (hts _ mX3_mostOfOneSound_0) (hts _ mX3_mostOfOneSound_1) (hts _ mX3_mostOfOneSound_2) (hts _ mX3_mostOfOneSound_3) (Nat.le_of_ble_eq_true rfl) (Nat.le_of_ble_eq_true rfl) (Nat.zero_le _) (Nat.zero_le _) dX3_mostOfOneSound_63 ?_
        refine lv_istore_n (lv' := [(3, .int (iMax x3 x5)), (0, .ref (a 7)), (1, .int x1), (2, .int x2), (4, .int x4), (5, .int x5)]) hx hb dX3_mostOfOneSound_66 rfl hl (by decide) rfl (fun ls hl => ?_)
        refine lv_iinc (v := (x4 + 1)) (lv' := [(4, .int (x4 + 1)), (3, .int (iMax x3 x5)), (0, .ref (a 7)), (1, .int x1), (2, .int x2), (5, .int x5)]) hx hb dX3_mostOfOneSound_67 hl (k := 4) rfl rfl (by decide) rfl (fun ls hl => ?_)
        refine lv_goto (tgt := 5) hx hb dX3_mostOfOneSound_70 (by decide) ?_
        exact ih5 _ _ h _ _ hP hD hS _ (lv_sub hl [2, 3, 4, 1, 0] rfl)
  refine lp5 _ _ _ ?_ N _ _ h _ _ hP hD hS _ (lv_sub hl [2, 3, 4, 1, 0] rfl)
  intro x3 x4 h H locs hP hD hS ls hl
  refine lv_iload_n hx hb dX3_mostOfOneSound_73 rfl (lv_at hl 0 rfl) ?_
  obtain rfl := Option.some.inj h
  exact g_iret hx hb hr hK hP hD hS hQ dX3_mostOfOneSound_74
theorem inX7_listen_X7 : ∀ w ∈ u_ws RX7 TX7 9, w ∈ wsX7_listen := by decide +kernel
theorem mX7_listen_0 : Cond.fieldLink RX7 53 "WarmBottles" "heard" "LWarmBottles$Heard;" ∈ wsX7_listen := List.mem_of_getElem? (i := 1) rfl
theorem mX7_listen_1 : Cond.fieldLink RX7 26 "WarmBottles" "night" "LWarmBottles$Night;" ∈ wsX7_listen := List.mem_of_getElem? (i := 2) rfl
def rm_X7_listen_C : Room := { frames := 11, cells := 0, slots := 0, locals := 450 }
def f_X7_listen_C_L38 (N : Nat) (k_38 : Int32 → Int32 → Int32 → Option (Int32)) (x1 : Int32) (I : (Nat → Int32)) (A : (Nat → Nat → Int32)) : Nat → Int32 → Int32 → Int32 → Option (Int32)
  | 0, _, _, _ => none
  | n_38 + 1, x2, x3, x4 => (if 9 < x4 then (k_38 x2 x3 x4) else (Option.bind (f_X3_mostOfOneSound_C N I A x1 x4) (fun r6 => (if x3 ≤ r6 then (f_X7_listen_C_L38 N k_38 x1 I A n_38 x2 x3 (x4 + 1)) else (f_X7_listen_C_L38 N k_38 x1 I A n_38 x4 r6 (x4 + 1))))))
def f_X7_listen_C (N : Nat) (I : Nat → Int32) (A : Nat → Nat → Int32)  : Option (Int32) := (Option.bind (f_X1_whoFits_C N I A) (fun r1 => (Option.bind (f_J6_bitCount_0f7a4_C N I A r1) (fun r2 => (if 1 < r2 then (Option.bind (f_X3_mostOfOneSound_C N I A r1 0) (fun r4 => (f_X7_listen_C_L38 N (fun (x2 : Int32) (x3 : Int32) (x4 : Int32) => some x2) r1 I A N 0 r4 1))) else some (-9))))))
set_option maxHeartbeats 4000000 in
set_option maxRecDepth 100000 in
theorem c_X7_listen_C (l : Launch) (dC : Nat → ClassId) (dI : Nat → Nat → Nat) (a : Nat → Nat) (cy : Nat → ClassId) (N : Nat) (I : Nat → Int32) (A : Nat → Nat → Int32) (T : Int64)  (res : Int32) (h : f_X7_listen_C N I A  = some res) (sz : Nat) : Met l yX7_listen wsX7_listen rm_X7_listen_C (g_Pre (dC, dI) cy [.ref (a 0)] (wC a cy I A T) sz) (g_Qi (dC, dI) cy res (wC a cy I A T) (wC a cy I A T) sz) 0 0 (va_A (wC a cy I A T) sz) := by
  unfold f_X7_listen_C at h
  refine g_entry _ _ _ _ _ _ (cc := cX7_listen) (maxL := 6) (ret := (some .int)) (by decide) rfl (Nat.le_of_ble_eq_true rfl) ?_
  intro p e s m args below meth c ls hx hb hml hown hts hr hlocks hA hK hP hD hS hl Q hQ
  have hl : lv_has ls 6 [(0, .ref (a 0))] := hl
  have hown : s.vm.findClass RX7 = some m.cls := hown
  refine lv_aload_n hx hb dX7_listen_0 rfl (lv_at hl 0 rfl) ?_
  refine va_get (D := (dC, dI)) (ci := 7) (v := .ref (a 20)) (C := RX7) (T := TX7) (N := 9) hx hb hts inX7_listen_X7 hown hK hP 0 (eC_0 a cy I A T) rfl 6 (by decide) (hts _ mX7_listen_0) (fun _ h9 => h9) rfl dX7_listen_1 ?_
  refine lv_aload_n hx hb dX7_listen_4 rfl (lv_at hl 0 rfl) ?_
  refine va_get (D := (dC, dI)) (ci := 7) (v := .ref (a 7)) (C := RX7) (T := TX7) (N := 9) hx hb hts inX7_listen_X7 hown hK hP 0 (eC_0 a cy I A T) rfl 2 (by decide) (hts _ mX7_listen_1) (fun _ h9 => h9) rfl dX7_listen_5 ?_
  obtain ⟨r1, hr1, h⟩ := bnd_some h
  refine g_callVi (As := [.ref (a 7)]) (rest := []) (ci := 1) (q0 := 20) hx hb hml hown hts (c_X1_whoFits_C l dC dI a cy N I A T r1 hr1) (cwV 1 hts gX7_listen_X1_whoFits rfl rfl rfl (by decide +kernel) ⟨Nat.le_of_ble_eq_true rfl, Nat.le_of_ble_eq_true rfl⟩) hK hP hD hS hA rfl (eC_20 a cy I A T) rfl rfl hl.1 rfl (Nat.le_of_ble_eq_true rfl) dX7_listen_8 (fun H locs hP hD hS => ?_)
  refine lv_istore_n (lv' := [(1, .int r1), (0, .ref (a 0))]) hx hb dX7_listen_11 rfl hl (by decide) rfl (fun ls hl => ?_)
  refine lv_iload_n hx hb dX7_listen_12 rfl (lv_at hl 0 rfl) ?_
  obtain ⟨r2, hr2, h⟩ := bnd_some h
  refine g_callSi (As := [.int r1]) (rest := []) hx hb hml hown hts (c_J6_bitCount_0f7a4_C l dC dI a cy N I A T r1 r2 hr2) (va_cwS 1 hts gX7_listen_J6_bitCount_0f7a4 rfl rfl rfl (by decide +kernel) ⟨Nat.le_of_ble_eq_true rfl, Nat.le_of_ble_eq_true rfl⟩) hK hP hD hS hA rfl hl.1 rfl (Nat.le_of_ble_eq_true rfl) dX7_listen_13 (fun H locs hP hD hS => ?_)
  refine lv_iconst (v := 1) hx hb dX7_listen_16 (by decide) ?_
  refine lv_icmp_gt (tgt := 23) hx hb dX7_listen_17 (by decide) (fun c3 => ?_) (fun c3 => ?_)
  · replace h := ite_t h c3
    refine lv_iconst (v := 0) hx hb dX7_listen_23 (by decide) ?_
    refine lv_istore_n (lv' := [(2, .int 0), (1, .int r1), (0, .ref (a 0))]) hx hb dX7_listen_24 rfl hl (by decide) rfl (fun ls hl => ?_)
    refine lv_aload_n hx hb dX7_listen_25 rfl (lv_at hl 2 rfl) ?_
    refine va_get (D := (dC, dI)) (ci := 7) (v := .ref (a 7)) (C := RX7) (T := TX7) (N := 9) hx hb hts inX7_listen_X7 hown hK hP 0 (eC_0 a cy I A T) rfl 2 (by decide) (hts _ mX7_listen_1) (fun _ h9 => h9) rfl dX7_listen_26 ?_
    refine lv_iload_n hx hb dX7_listen_29 rfl (lv_at hl 1 rfl) ?_
    refine lv_iconst (v := 0) hx hb dX7_listen_30 (by decide) ?_
    obtain ⟨r4, hr4, h⟩ := bnd_some h
    refine g_callVi (As := [.int r1, .int 0]) (rest := []) (ci := 3) (q0 := 7) hx hb hml hown hts (c_X3_mostOfOneSound_C l dC dI a cy N I A T r1 0 r4 hr4) (cwV 2 hts gX7_listen_X3_mostOfOneSound rfl rfl rfl (by decide +kernel) ⟨Nat.le_of_ble_eq_true rfl, Nat.le_of_ble_eq_true rfl⟩) hK hP hD hS hA rfl (eC_7 a cy I A T) rfl rfl hl.1 rfl (Nat.le_of_ble_eq_true rfl) dX7_listen_31 (fun H locs hP hD hS => ?_)
    refine lv_istore_n (lv' := [(3, .int r4), (2, .int 0), (1, .int r1), (0, .ref (a 0))]) hx hb dX7_listen_34 rfl hl (by decide) rfl (fun ls hl => ?_)
    refine lv_iconst (v := 1) hx hb dX7_listen_35 (by decide) ?_
    refine lv_istore (lv' := [(4, .int 1), (3, .int r4), (2, .int 0), (1, .int r1), (0, .ref (a 0))]) hx hb dX7_listen_36 hl (by decide) rfl (fun ls hl => ?_)
    have lp38 : ∀ (x1 : Int32) (k_38 : Int32 → Int32 → Int32 → Option (Int32)), (∀ (x2 : Int32) (x3 : Int32) (x4 : Int32), k_38 x2 x3 x4 = some res → g_At (dC, dI) p l e (headSpec wsX7_listen rm_X7_listen_C).room s m args below meth c Q (wC a cy I A T) sz 6 (wC a cy I A T) [(2, .int x2)] 75 []) → ∀ (n_38 : Nat) (x2 : Int32) (x3 : Int32) (x4 : Int32), f_X7_listen_C_L38 N k_38 x1 I A n_38 x2 x3 x4 = some res → g_At (dC, dI) p l e (headSpec wsX7_listen rm_X7_listen_C).room s m args below meth c Q (wC a cy I A T) sz 6 (wC a cy I A T) [(0, .ref (a 0)), (1, .int x1), (2, .int x2), (3, .int x3), (4, .int x4)] 38 [] := by
      intro x1 k_38 hk_38 n_38
      induction n_38 with
      | zero =>
        intro x2 x3 x4 h
        exact absurd h (by rw [f_X7_listen_C_L38]; exact fun q => by cases q)
      | succ n_38 ih38 =>
        intro x2 x3 x4 h H locs hP hD hS ls hl
        rw [f_X7_listen_C_L38] at h
        refine lv_iload hx hb dX7_listen_38 (lv_at hl 4 rfl) ?_
        refine lv_bipush (v := 9) hx hb dX7_listen_40 (by decide) ?_
        refine lv_icmp_gt (tgt := 75) hx hb dX7_listen_42 (by decide) (fun c5 => ?_) (fun c5 => ?_)
        · replace h := ite_t h c5
          exact hk_38 _ _ _ h _ _ hP hD hS _ (lv_sub hl [2] rfl)
        · replace h := ite_f h c5
          refine lv_aload_n hx hb dX7_listen_45 rfl (lv_at hl 0 rfl) ?_
          refine va_get (D := (dC, dI)) (ci := 7) (v := .ref (a 7)) (C := RX7) (T := TX7) (N := 9) hx hb hts inX7_listen_X7 hown hK hP 0 (eC_0 a cy I A T) rfl 2 (by decide) (hts _ mX7_listen_1) (fun _ h9 => h9) rfl dX7_listen_46 ?_
          refine lv_iload_n hx hb dX7_listen_49 rfl (lv_at hl 1 rfl) ?_
          refine lv_iload hx hb dX7_listen_50 (lv_at hl 4 rfl) ?_
          obtain ⟨r6, hr6, h⟩ := bnd_some h
          refine g_callVi (As := [.int x1, .int x4]) (rest := []) (ci := 3) (q0 := 7) hx hb hml hown hts (c_X3_mostOfOneSound_C l dC dI a cy N I A T x1 x4 r6 hr6) (cwV 2 hts gX7_listen_X3_mostOfOneSound rfl rfl rfl (by decide +kernel) ⟨Nat.le_of_ble_eq_true rfl, Nat.le_of_ble_eq_true rfl⟩) hK hP hD hS hA rfl (eC_7 a cy I A T) rfl rfl hl.1 rfl (Nat.le_of_ble_eq_true rfl) dX7_listen_52 (fun H locs hP hD hS => ?_)
          refine lv_istore (lv' := [(5, .int r6), (0, .ref (a 0)), (1, .int x1), (2, .int x2), (3, .int x3), (4, .int x4)]) hx hb dX7_listen_55 hl (by decide) rfl (fun ls hl => ?_)
          refine lv_iload hx hb dX7_listen_57 (lv_at hl 0 rfl) ?_
          refine lv_iload_n hx hb dX7_listen_59 rfl (lv_at hl 4 rfl) ?_
          refine lv_icmp_ge (tgt := 69) hx hb dX7_listen_60 (by decide) (fun c7 => ?_) (fun c7 => ?_)
          · replace h := ite_t h c7
            refine lv_iinc (v := (x4 + 1)) (lv' := [(4, .int (x4 + 1)), (5, .int r6), (0, .ref (a 0)), (1, .int x1), (2, .int x2), (3, .int x3)]) hx hb dX7_listen_69 hl (k := 5) rfl rfl (by decide) rfl (fun ls hl => ?_)
            refine lv_goto (tgt := 38) hx hb dX7_listen_72 (by decide) ?_
            exact ih38 _ _ _ h _ _ hP hD hS _ (lv_sub hl [2, 3, 4, 5, 0] rfl)
          · replace h := ite_f h c7
            refine lv_iload hx hb dX7_listen_63 (lv_at hl 0 rfl) ?_
            refine lv_istore_n (lv' := [(3, .int r6), (5, .int r6), (0, .ref (a 0)), (1, .int x1), (2, .int x2), (4, .int x4)]) hx hb dX7_listen_65 rfl hl (by decide) rfl (fun ls hl => ?_)
            refine lv_iload hx hb dX7_listen_66 (lv_at hl 5 rfl) ?_
            refine lv_istore_n (lv' := [(2, .int x4), (3, .int r6), (5, .int r6), (0, .ref (a 0)), (1, .int x1), (4, .int x4)]) hx hb dX7_listen_68 rfl hl (by decide) rfl (fun ls hl => ?_)
            refine lv_iinc (v := (x4 + 1)) (lv' := [(4, .int (x4 + 1)), (2, .int x4), (3, .int r6), (5, .int r6), (0, .ref (a 0)), (1, .int x1)]) hx hb dX7_listen_69 hl (k := 5) rfl rfl (by decide) rfl (fun ls hl => ?_)
            refine lv_goto (tgt := 38) hx hb dX7_listen_72 (by decide) ?_
            exact ih38 _ _ _ h _ _ hP hD hS _ (lv_sub hl [4, 5, 1, 2, 0] rfl)
    refine lp38 _ _ ?_ N _ _ _ h _ _ hP hD hS _ (lv_sub hl [4, 3, 2, 1, 0] rfl)
    intro x2 x3 x4 h H locs hP hD hS ls hl
    refine lv_iload_n hx hb dX7_listen_75 rfl (lv_at hl 0 rfl) ?_
    obtain rfl := Option.some.inj h
    exact g_iret hx hb hr hK hP hD hS hQ dX7_listen_76
  · replace h := ite_f h c3
    refine lv_bipush (v := (-9)) hx hb dX7_listen_20 (by decide) ?_
    obtain rfl := Option.some.inj h
    exact g_iret hx hb hr hK hP hD hS hQ dX7_listen_22
theorem inX7_asBottle_X7 : ∀ w ∈ u_ws RX7 TX7 9, w ∈ wsX7_asBottle := by decide +kernel
theorem mX7_asBottle_0 : Cond.fieldLink RX7 209 "WarmBottles" "trace" "J" ∈ wsX7_asBottle := List.mem_of_getElem? (i := 1) rfl
theorem mX7_asBottle_1 : Cond.fieldLink RX7 26 "WarmBottles" "night" "LWarmBottles$Night;" ∈ wsX7_asBottle := List.mem_of_getElem? (i := 2) rfl
theorem inX7_asBottle_X3 : ∀ w ∈ u_ws RX3 TX3 6, w ∈ wsX7_asBottle := by decide +kernel
theorem mX7_asBottle_2 : Cond.fieldLink RX7 96 "WarmBottles$Night" "warm" "[I" ∈ wsX7_asBottle := List.mem_of_getElem? (i := 3) rfl
def rm_X7_asBottle_C : Room := { frames := 3, cells := 0, slots := 0, locals := 210 }
def f_X7_asBottle_C (N : Nat) (I : Nat → Int32) (A : Nat → Nat → Int32) (T : Int64) (p1 : Int32) : Option (Int32 × Int64) := (if p1 < 0 ∨ 6 ≤ p1.toNatClampNeg then none else some (((A 7) p1.toNatClampNeg), (T + 1)))
set_option maxHeartbeats 4000000 in
set_option maxRecDepth 100000 in
theorem c_X7_asBottle_C (l : Launch) (dC : Nat → ClassId) (dI : Nat → Nat → Nat) (a : Nat → Nat) (cy : Nat → ClassId) (N : Nat) (I : Nat → Int32) (A : Nat → Nat → Int32) (T : Int64) (p1 : Int32) (res : Int32 × Int64) (h : f_X7_asBottle_C N I A T p1 = some res) (sz : Nat) : Met l yX7_asBottle wsX7_asBottle rm_X7_asBottle_C (g_Pre (dC, dI) cy [.ref (a 0), .int p1] (wC a cy I A T) sz) (g_Qi (dC, dI) cy res.1 (wC a cy I A T) (wC a cy I A res.2) sz) 0 0 (va_A (wC a cy I A T) sz) := by
  unfold f_X7_asBottle_C at h
  refine g_entry _ _ _ _ _ _ (cc := cX7_asBottle) (maxL := 2) (ret := (some .int)) (by decide) rfl (Nat.le_of_ble_eq_true rfl) ?_
  intro p e s m args below meth c ls hx hb hml hown hts hr hlocks hA hK hP hD hS hl Q hQ
  have hl : lv_has ls 2 [(0, .ref (a 0)), (1, .int p1)] := hl
  have hown : s.vm.findClass RX7 = some m.cls := hown
  refine lv_aload_n hx hb dX7_asBottle_0 rfl (lv_at hl 0 rfl) ?_
  refine lv_dup hx hb dX7_asBottle_1 rfl ?_
  refine va_get (D := (dC, dI)) (ci := 7) (v := .long T) (C := RX7) (T := TX7) (N := 9) hx hb hts inX7_asBottle_X7 hown hK hP 0 (eC_0 a cy I A T) rfl 8 (by decide) (hts _ mX7_asBottle_0) (fun _ h9 => h9) rfl dX7_asBottle_2 ?_
  refine lv_lconst (v := 1) hx hb dX7_asBottle_5 (by decide) ?_
  refine lv_ladd hx hb dX7_asBottle_6 ?_
  refine g_put (D := (dC, dI)) (ci := 7) (v := .long (T + 1)) (ty := .long) (C := RX7) (T := TX7) (N := 9) hx hb hts inX7_asBottle_X7 tyX7 tyX7_ok nmX7 hown hK hP hD hS 0 (eC_0 a cy I A T) rfl 8 (by decide) (hts _ mX7_asBottle_0) (fun _ h9 => h9) rfl (by decide +kernel) rfl rfl (Nat.le_of_ble_eq_true rfl) dX7_asBottle_7 (pC_0_8 a cy I A T (T + 1)) (fun H locs hP hD hS => ?_)
  refine lv_aload_n hx hb dX7_asBottle_10 rfl (lv_at hl 0 rfl) ?_
  refine va_get (D := (dC, dI)) (ci := 7) (v := .ref (a 7)) (C := RX7) (T := TX7) (N := 9) hx hb hts inX7_asBottle_X7 hown hK hP 0 (eC_0 a cy I A (T + 1)) rfl 2 (by decide) (hts _ mX7_asBottle_1) (fun _ h9 => h9) rfl dX7_asBottle_11 ?_
  refine va_get (D := (dC, dI)) (ci := 3) (v := .ref (a 12)) (C := RX3) (T := TX3) (N := 6) hx hb hts inX7_asBottle_X3 hown hK hP 7 (eC_7 a cy I A (T + 1)) rfl 1 (by decide) (hts _ mX7_asBottle_2) (fun _ h9 => h9) rfl dX7_asBottle_14 ?_
  refine lv_iload_n hx hb dX7_asBottle_17 rfl (lv_at hl 1 rfl) ?_
  obtain ⟨i1, h⟩ := inb_some h
  refine g_iald (f := (A 7)) (j := p1.toNatClampNeg) hx hb hK hP 12 (eC_12 a cy I A (T + 1)) i1 rfl dX7_asBottle_18 ?_
  obtain rfl := Option.some.inj h
  exact g_iret hx hb hr hK hP hD hS hQ dX7_asBottle_19
theorem inX7_asBosun_X7 : ∀ w ∈ u_ws RX7 TX7 9, w ∈ wsX7_asBosun := by decide +kernel
theorem mX7_asBosun_0 : Cond.fieldLink RX7 209 "WarmBottles" "trace" "J" ∈ wsX7_asBosun := List.mem_of_getElem? (i := 1) rfl
theorem mX7_asBosun_1 : Cond.constantLong RX7 213 (10) ∈ wsX7_asBosun := List.mem_of_getElem? (i := 2) rfl
theorem mX7_asBosun_2 : Cond.fieldLink RX7 26 "WarmBottles" "night" "LWarmBottles$Night;" ∈ wsX7_asBosun := List.mem_of_getElem? (i := 3) rfl
theorem inX7_asBosun_X3 : ∀ w ∈ u_ws RX3 TX3 6, w ∈ wsX7_asBosun := by decide +kernel
theorem mX7_asBosun_3 : Cond.fieldLink RX7 76 "WarmBottles$Night" "told" "LWarmBottles$Told;" ∈ wsX7_asBosun := List.mem_of_getElem? (i := 4) rfl
theorem inX7_asBosun_X6 : ∀ w ∈ u_ws RX6 TX6 6, w ∈ wsX7_asBosun := by decide +kernel
theorem mX7_asBosun_4 : Cond.fieldLink RX7 103 "WarmBottles$Told" "speaks" "[I" ∈ wsX7_asBosun := List.mem_of_getElem? (i := 5) rfl
def rm_X7_asBosun_C : Room := { frames := 5, cells := 0, slots := 0, locals := 270 }
def f_X7_asBosun_C (N : Nat) (I : Nat → Int32) (A : Nat → Nat → Int32) (T : Int64) (p1 : Int32) : Option (Int32 × Int64) := (Option.bind (f_X7_asBottle_C N I A (T + 10) p1) (fun r1 => (if p1 < 0 ∨ 6 ≤ p1.toNatClampNeg then none else some ((r1.1 + ((A 6) p1.toNatClampNeg)), r1.2))))
set_option maxHeartbeats 4000000 in
set_option maxRecDepth 100000 in
theorem c_X7_asBosun_C (l : Launch) (dC : Nat → ClassId) (dI : Nat → Nat → Nat) (a : Nat → Nat) (cy : Nat → ClassId) (N : Nat) (I : Nat → Int32) (A : Nat → Nat → Int32) (T : Int64) (p1 : Int32) (res : Int32 × Int64) (h : f_X7_asBosun_C N I A T p1 = some res) (sz : Nat) : Met l yX7_asBosun wsX7_asBosun rm_X7_asBosun_C (g_Pre (dC, dI) cy [.ref (a 0), .int p1] (wC a cy I A T) sz) (g_Qi (dC, dI) cy res.1 (wC a cy I A T) (wC a cy I A res.2) sz) 0 0 (va_A (wC a cy I A T) sz) := by
  unfold f_X7_asBosun_C at h
  refine g_entry _ _ _ _ _ _ (cc := cX7_asBosun) (maxL := 2) (ret := (some .int)) (by decide) rfl (Nat.le_of_ble_eq_true rfl) ?_
  intro p e s m args below meth c ls hx hb hml hown hts hr hlocks hA hK hP hD hS hl Q hQ
  have hl : lv_has ls 2 [(0, .ref (a 0)), (1, .int p1)] := hl
  have hown : s.vm.findClass RX7 = some m.cls := hown
  refine lv_aload_n hx hb dX7_asBosun_0 rfl (lv_at hl 0 rfl) ?_
  refine lv_dup hx hb dX7_asBosun_1 rfl ?_
  refine va_get (D := (dC, dI)) (ci := 7) (v := .long T) (C := RX7) (T := TX7) (N := 9) hx hb hts inX7_asBosun_X7 hown hK hP 0 (eC_0 a cy I A T) rfl 8 (by decide) (hts _ mX7_asBosun_0) (fun _ h9 => h9) rfl dX7_asBosun_2 ?_
  refine lv_ldc2 (v := 10) hx hb hown (hts _ mX7_asBosun_1) dX7_asBosun_5 ?_
  refine lv_ladd hx hb dX7_asBosun_8 ?_
  refine g_put (D := (dC, dI)) (ci := 7) (v := .long (T + 10)) (ty := .long) (C := RX7) (T := TX7) (N := 9) hx hb hts inX7_asBosun_X7 tyX7 tyX7_ok nmX7 hown hK hP hD hS 0 (eC_0 a cy I A T) rfl 8 (by decide) (hts _ mX7_asBosun_0) (fun _ h9 => h9) rfl (by decide +kernel) rfl rfl (Nat.le_of_ble_eq_true rfl) dX7_asBosun_9 (pC_0_8 a cy I A T (T + 10)) (fun H locs hP hD hS => ?_)
  refine lv_aload_n hx hb dX7_asBosun_12 rfl (lv_at hl 0 rfl) ?_
  refine lv_iload_n hx hb dX7_asBosun_13 rfl (lv_at hl 1 rfl) ?_
  obtain ⟨r1, hr1, h⟩ := bnd_some h
  refine g_callVi (As := [.int p1]) (rest := []) (ci := 7) (q0 := 0) hx hb hml hown hts (c_X7_asBottle_C l dC dI a cy N I A (T + 10) p1 r1 hr1) (cwV 1 hts gX7_asBosun_X7_asBottle rfl rfl rfl (by decide +kernel) ⟨Nat.le_of_ble_eq_true rfl, Nat.le_of_ble_eq_true rfl⟩) hK hP hD hS hA rfl (eC_0 a cy I A (T + 10)) rfl rfl hl.1 rfl (Nat.le_of_ble_eq_true rfl) dX7_asBosun_14 (fun H locs hP hD hS => ?_)
  refine lv_aload_n hx hb dX7_asBosun_17 rfl (lv_at hl 0 rfl) ?_
  refine va_get (D := (dC, dI)) (ci := 7) (v := .ref (a 7)) (C := RX7) (T := TX7) (N := 9) hx hb hts inX7_asBosun_X7 hown hK hP 0 (eC_0 a cy I A r1.2) rfl 2 (by decide) (hts _ mX7_asBosun_2) (fun _ h9 => h9) rfl dX7_asBosun_18 ?_
  refine va_get (D := (dC, dI)) (ci := 3) (v := .ref (a 8)) (C := RX3) (T := TX3) (N := 6) hx hb hts inX7_asBosun_X3 hown hK hP 7 (eC_7 a cy I A r1.2) rfl 0 (by decide) (hts _ mX7_asBosun_3) (fun _ h9 => h9) rfl dX7_asBosun_21 ?_
  refine va_get (D := (dC, dI)) (ci := 6) (v := .ref (a 11)) (C := RX6) (T := TX6) (N := 6) hx hb hts inX7_asBosun_X6 hown hK hP 8 (eC_8 a cy I A r1.2) rfl 2 (by decide) (hts _ mX7_asBosun_4) (fun _ h9 => h9) rfl dX7_asBosun_24 ?_
  refine lv_iload_n hx hb dX7_asBosun_27 rfl (lv_at hl 1 rfl) ?_
  obtain ⟨i2, h⟩ := inb_some h
  refine g_iald (f := (A 6)) (j := p1.toNatClampNeg) hx hb hK hP 11 (eC_11 a cy I A r1.2) i2 rfl dX7_asBosun_28 ?_
  refine lv_iadd hx hb dX7_asBosun_29 ?_
  obtain rfl := Option.some.inj h
  exact g_iret hx hb hr hK hP hD hS hQ dX7_asBosun_30
theorem inX7_asCook_X7 : ∀ w ∈ u_ws RX7 TX7 9, w ∈ wsX7_asCook := by decide +kernel
theorem mX7_asCook_0 : Cond.fieldLink RX7 209 "WarmBottles" "trace" "J" ∈ wsX7_asCook := List.mem_of_getElem? (i := 1) rfl
theorem mX7_asCook_1 : Cond.constantLong RX7 215 (100) ∈ wsX7_asCook := List.mem_of_getElem? (i := 2) rfl
theorem mX7_asCook_2 : Cond.fieldLink RX7 26 "WarmBottles" "night" "LWarmBottles$Night;" ∈ wsX7_asCook := List.mem_of_getElem? (i := 3) rfl
theorem inX7_asCook_X3 : ∀ w ∈ u_ws RX3 TX3 6, w ∈ wsX7_asCook := by decide +kernel
theorem mX7_asCook_3 : Cond.fieldLink RX7 76 "WarmBottles$Night" "told" "LWarmBottles$Told;" ∈ wsX7_asCook := List.mem_of_getElem? (i := 4) rfl
theorem inX7_asCook_X6 : ∀ w ∈ u_ws RX6 TX6 6, w ∈ wsX7_asCook := by decide +kernel
theorem mX7_asCook_4 : Cond.fieldLink RX7 100 "WarmBottles$Told" "cools" "[I" ∈ wsX7_asCook := List.mem_of_getElem? (i := 5) rfl
def rm_X7_asCook_C : Room := { frames := 5, cells := 0, slots := 0, locals := 270 }
def f_X7_asCook_C (N : Nat) (I : Nat → Int32) (A : Nat → Nat → Int32) (T : Int64) (p1 : Int32) : Option (Int32 × Int64) := (Option.bind (f_X7_asBottle_C N I A (T + 100) p1) (fun r1 => (if p1 < 0 ∨ 6 ≤ p1.toNatClampNeg then none else some ((r1.1 - ((A 5) p1.toNatClampNeg)), r1.2))))
set_option maxHeartbeats 4000000 in
set_option maxRecDepth 100000 in
theorem c_X7_asCook_C (l : Launch) (dC : Nat → ClassId) (dI : Nat → Nat → Nat) (a : Nat → Nat) (cy : Nat → ClassId) (N : Nat) (I : Nat → Int32) (A : Nat → Nat → Int32) (T : Int64) (p1 : Int32) (res : Int32 × Int64) (h : f_X7_asCook_C N I A T p1 = some res) (sz : Nat) : Met l yX7_asCook wsX7_asCook rm_X7_asCook_C (g_Pre (dC, dI) cy [.ref (a 0), .int p1] (wC a cy I A T) sz) (g_Qi (dC, dI) cy res.1 (wC a cy I A T) (wC a cy I A res.2) sz) 0 0 (va_A (wC a cy I A T) sz) := by
  unfold f_X7_asCook_C at h
  refine g_entry _ _ _ _ _ _ (cc := cX7_asCook) (maxL := 2) (ret := (some .int)) (by decide) rfl (Nat.le_of_ble_eq_true rfl) ?_
  intro p e s m args below meth c ls hx hb hml hown hts hr hlocks hA hK hP hD hS hl Q hQ
  have hl : lv_has ls 2 [(0, .ref (a 0)), (1, .int p1)] := hl
  have hown : s.vm.findClass RX7 = some m.cls := hown
  refine lv_aload_n hx hb dX7_asCook_0 rfl (lv_at hl 0 rfl) ?_
  refine lv_dup hx hb dX7_asCook_1 rfl ?_
  refine va_get (D := (dC, dI)) (ci := 7) (v := .long T) (C := RX7) (T := TX7) (N := 9) hx hb hts inX7_asCook_X7 hown hK hP 0 (eC_0 a cy I A T) rfl 8 (by decide) (hts _ mX7_asCook_0) (fun _ h9 => h9) rfl dX7_asCook_2 ?_
  refine lv_ldc2 (v := 100) hx hb hown (hts _ mX7_asCook_1) dX7_asCook_5 ?_
  refine lv_ladd hx hb dX7_asCook_8 ?_
  refine g_put (D := (dC, dI)) (ci := 7) (v := .long (T + 100)) (ty := .long) (C := RX7) (T := TX7) (N := 9) hx hb hts inX7_asCook_X7 tyX7 tyX7_ok nmX7 hown hK hP hD hS 0 (eC_0 a cy I A T) rfl 8 (by decide) (hts _ mX7_asCook_0) (fun _ h9 => h9) rfl (by decide +kernel) rfl rfl (Nat.le_of_ble_eq_true rfl) dX7_asCook_9 (pC_0_8 a cy I A T (T + 100)) (fun H locs hP hD hS => ?_)
  refine lv_aload_n hx hb dX7_asCook_12 rfl (lv_at hl 0 rfl) ?_
  refine lv_iload_n hx hb dX7_asCook_13 rfl (lv_at hl 1 rfl) ?_
  obtain ⟨r1, hr1, h⟩ := bnd_some h
  refine g_callVi (As := [.int p1]) (rest := []) (ci := 7) (q0 := 0) hx hb hml hown hts (c_X7_asBottle_C l dC dI a cy N I A (T + 100) p1 r1 hr1) (cwV 1 hts gX7_asCook_X7_asBottle rfl rfl rfl (by decide +kernel) ⟨Nat.le_of_ble_eq_true rfl, Nat.le_of_ble_eq_true rfl⟩) hK hP hD hS hA rfl (eC_0 a cy I A (T + 100)) rfl rfl hl.1 rfl (Nat.le_of_ble_eq_true rfl) dX7_asCook_14 (fun H locs hP hD hS => ?_)
  refine lv_aload_n hx hb dX7_asCook_17 rfl (lv_at hl 0 rfl) ?_
  refine va_get (D := (dC, dI)) (ci := 7) (v := .ref (a 7)) (C := RX7) (T := TX7) (N := 9) hx hb hts inX7_asCook_X7 hown hK hP 0 (eC_0 a cy I A r1.2) rfl 2 (by decide) (hts _ mX7_asCook_2) (fun _ h9 => h9) rfl dX7_asCook_18 ?_
  refine va_get (D := (dC, dI)) (ci := 3) (v := .ref (a 8)) (C := RX3) (T := TX3) (N := 6) hx hb hts inX7_asCook_X3 hown hK hP 7 (eC_7 a cy I A r1.2) rfl 0 (by decide) (hts _ mX7_asCook_3) (fun _ h9 => h9) rfl dX7_asCook_21 ?_
  refine va_get (D := (dC, dI)) (ci := 6) (v := .ref (a 10)) (C := RX6) (T := TX6) (N := 6) hx hb hts inX7_asCook_X6 hown hK hP 8 (eC_8 a cy I A r1.2) rfl 1 (by decide) (hts _ mX7_asCook_4) (fun _ h9 => h9) rfl dX7_asCook_24 ?_
  refine lv_iload_n hx hb dX7_asCook_27 rfl (lv_at hl 1 rfl) ?_
  obtain ⟨i2, h⟩ := inb_some h
  refine g_iald (f := (A 5)) (j := p1.toNatClampNeg) hx hb hK hP 10 (eC_10 a cy I A r1.2) i2 rfl dX7_asCook_28 ?_
  refine lv_isub hx hb dX7_asCook_29 ?_
  obtain rfl := Option.some.inj h
  exact g_iret hx hb hr hK hP hD hS hQ dX7_asCook_30
theorem inX7_asMate_X7 : ∀ w ∈ u_ws RX7 TX7 9, w ∈ wsX7_asMate := by decide +kernel
theorem mX7_asMate_0 : Cond.fieldLink RX7 209 "WarmBottles" "trace" "J" ∈ wsX7_asMate := List.mem_of_getElem? (i := 1) rfl
theorem mX7_asMate_1 : Cond.constantLong RX7 217 (1000) ∈ wsX7_asMate := List.mem_of_getElem? (i := 2) rfl
def rm_X7_asMate_C : Room := { frames := 7, cells := 0, slots := 0, locals := 330 }
def f_X7_asMate_C (N : Nat) (I : Nat → Int32) (A : Nat → Nat → Int32) (T : Int64) (p1 : Int32) : Option (Int32 × Int64) := (Option.bind (f_X7_asBosun_C N I A (T + 1000) p1) (fun r1 => some ((2 * r1.1), r1.2)))
set_option maxHeartbeats 4000000 in
set_option maxRecDepth 100000 in
theorem c_X7_asMate_C (l : Launch) (dC : Nat → ClassId) (dI : Nat → Nat → Nat) (a : Nat → Nat) (cy : Nat → ClassId) (N : Nat) (I : Nat → Int32) (A : Nat → Nat → Int32) (T : Int64) (p1 : Int32) (res : Int32 × Int64) (h : f_X7_asMate_C N I A T p1 = some res) (sz : Nat) : Met l yX7_asMate wsX7_asMate rm_X7_asMate_C (g_Pre (dC, dI) cy [.ref (a 0), .int p1] (wC a cy I A T) sz) (g_Qi (dC, dI) cy res.1 (wC a cy I A T) (wC a cy I A res.2) sz) 0 0 (va_A (wC a cy I A T) sz) := by
  unfold f_X7_asMate_C at h
  refine g_entry _ _ _ _ _ _ (cc := cX7_asMate) (maxL := 2) (ret := (some .int)) (by decide) rfl (Nat.le_of_ble_eq_true rfl) ?_
  intro p e s m args below meth c ls hx hb hml hown hts hr hlocks hA hK hP hD hS hl Q hQ
  have hl : lv_has ls 2 [(0, .ref (a 0)), (1, .int p1)] := hl
  have hown : s.vm.findClass RX7 = some m.cls := hown
  refine lv_aload_n hx hb dX7_asMate_0 rfl (lv_at hl 0 rfl) ?_
  refine lv_dup hx hb dX7_asMate_1 rfl ?_
  refine va_get (D := (dC, dI)) (ci := 7) (v := .long T) (C := RX7) (T := TX7) (N := 9) hx hb hts inX7_asMate_X7 hown hK hP 0 (eC_0 a cy I A T) rfl 8 (by decide) (hts _ mX7_asMate_0) (fun _ h9 => h9) rfl dX7_asMate_2 ?_
  refine lv_ldc2 (v := 1000) hx hb hown (hts _ mX7_asMate_1) dX7_asMate_5 ?_
  refine lv_ladd hx hb dX7_asMate_8 ?_
  refine g_put (D := (dC, dI)) (ci := 7) (v := .long (T + 1000)) (ty := .long) (C := RX7) (T := TX7) (N := 9) hx hb hts inX7_asMate_X7 tyX7 tyX7_ok nmX7 hown hK hP hD hS 0 (eC_0 a cy I A T) rfl 8 (by decide) (hts _ mX7_asMate_0) (fun _ h9 => h9) rfl (by decide +kernel) rfl rfl (Nat.le_of_ble_eq_true rfl) dX7_asMate_9 (pC_0_8 a cy I A T (T + 1000)) (fun H locs hP hD hS => ?_)
  refine lv_iconst (v := 2) hx hb dX7_asMate_12 (by decide) ?_
  refine lv_aload_n hx hb dX7_asMate_13 rfl (lv_at hl 0 rfl) ?_
  refine lv_iload_n hx hb dX7_asMate_14 rfl (lv_at hl 1 rfl) ?_
  obtain ⟨r1, hr1, h⟩ := bnd_some h
  refine g_callVi (As := [.int p1]) (rest := [.int 2]) (ci := 7) (q0 := 0) hx hb hml hown hts (c_X7_asBosun_C l dC dI a cy N I A (T + 1000) p1 r1 hr1) (cwV 1 hts gX7_asMate_X7_asBosun rfl rfl rfl (by decide +kernel) ⟨Nat.le_of_ble_eq_true rfl, Nat.le_of_ble_eq_true rfl⟩) hK hP hD hS hA rfl (eC_0 a cy I A (T + 1000)) rfl rfl hl.1 rfl (Nat.le_of_ble_eq_true rfl) dX7_asMate_15 (fun H locs hP hD hS => ?_)
  refine lv_imul hx hb dX7_asMate_18 ?_
  obtain rfl := Option.some.inj h
  exact g_iret hx hb hr hK hP hD hS hQ dX7_asMate_19
