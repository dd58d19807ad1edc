theorem inX8_passes_X8 : ∀ w ∈ u_ws RX8 TX8 19, w ∈ wsX8_passes := by decide +kernel
theorem mX8_passes_0 : Cond.fieldLink RX8 19 "WarmBottlesModel" "s" "[I" ∈ wsX8_passes := List.mem_of_getElem? (i := 2) rfl
theorem mX8_passes_1 : Cond.fieldLink RX8 13 "WarmBottlesModel" "told" "[I" ∈ wsX8_passes := List.mem_of_getElem? (i := 1) rfl
def rm_X8_passes_M : Room := { frames := 5, cells := 0, slots := 0, locals := 270 }
def f_X8_passes_M_L2 (N : Nat) (k_2 : Int32 → (Nat → Nat → Int32) → Option ((Nat → Nat → Int32))) (I : (Nat → Int32)) : Nat → Int32 → (Nat → Nat → Int32) → Option ((Nat → Nat → Int32))
  | 0, _, _ => none
  | n_2 + 1, x1, A_2 => (if ((A_2 1) 0) ≤ x1 then (k_2 x1 A_2) else (if (3 + x1) < 0 ∨ 15 ≤ ((3 + x1)).toNatClampNeg then none else (Option.bind (f_X8_cools_M N I A_2 x1 ((A_2 3) 1)) (fun r3 => (Option.bind (f_X8_less_M N I A_2 ((A_2 3) ((3 + x1)).toNatClampNeg) r3) (fun r4 => (f_X8_passes_M_L2 N k_2 I n_2 (x1 + 1) (va_up A_2 3 (upd (A_2 3) ((3 + x1)).toNatClampNeg r4)))))))))
def f_X8_passes_M (N : Nat) (I : Nat → Int32) (A : Nat → Nat → Int32)  : Option ((Nat → Nat → Int32)) := (f_X8_passes_M_L2 N (fun (x1 : Int32) (A_2 : (Nat → Nat → Int32)) => some (va_up A_2 3 (upd (A_2 3) 0 (((A_2 3) 0) + 1)))) I N 0 A)
set_option maxHeartbeats 4000000 in
set_option maxRecDepth 100000 in
theorem c_X8_passes_M (l : Launch) (dC : Nat → ClassId) (dI : Nat → Nat → Nat) (a : Nat → Nat) (cy : Nat → ClassId) (N : Nat) (I : Nat → Int32) (A : Nat → Nat → Int32) (T : Int64)  (res : (Nat → Nat → Int32)) (h : f_X8_passes_M N I A  = some res) (sz : Nat) : Met l yX8_passes wsX8_passes rm_X8_passes_M (g_Pre (dC, dI) cy [.ref (a 0)] (wM a cy I A T) sz) (g_Qv (dC, dI) cy (wM a cy I A T) (wM a cy I res T) sz) 0 0 (va_A (wM a cy I A T) sz) := by
  unfold f_X8_passes_M at h
  refine g_entry _ _ _ _ _ _ (cc := cX8_passes) (maxL := 2) (ret := none) (by decide) rfl (Nat.le_of_ble_eq_true rfl) ?_
  intro p e s m args below meth c ls hx hb hml hown hts hr hlocks hA hK hP hD hS hl Q hQ
  have hl : lv_has ls 2 [(0, .ref (a 0))] := hl
  have hown : s.vm.findClass RX8 = some m.cls := hown
  refine lv_iconst (v := 0) hx hb dX8_passes_0 (by decide) ?_
  refine lv_istore_n (lv' := [(1, .int 0), (0, .ref (a 0))]) hx hb dX8_passes_1 rfl hl (by decide) rfl (fun ls hl => ?_)
  have lp2 : ∀  (k_2 : Int32 → (Nat → Nat → Int32) → Option ((Nat → Nat → Int32))), (∀ (x1 : Int32) (A_2 : (Nat → Nat → Int32)), k_2 x1 A_2 = some res → g_At (dC, dI) p l e (headSpec wsX8_passes rm_X8_passes_M).room s m args below meth c Q (wM a cy I A T) sz 2 (wM a cy I A_2 T) [(0, .ref (a 0))] 48 []) → ∀ (n_2 : Nat) (x1 : Int32) (A_2 : (Nat → Nat → Int32)), f_X8_passes_M_L2 N k_2 I n_2 x1 A_2 = some res → g_At (dC, dI) p l e (headSpec wsX8_passes rm_X8_passes_M).room s m args below meth c Q (wM a cy I A T) sz 2 (wM a cy I A_2 T) [(0, .ref (a 0)), (1, .int x1)] 2 [] := by
    intro  k_2 hk_2 n_2
    induction n_2 with
    | zero =>
      intro x1 A_2 h
      exact absurd h (by rw [f_X8_passes_M_L2]; exact fun q => by cases q)
    | succ n_2 ih2 =>
      intro x1 A_2 h H locs hP hD hS ls hl
      rw [f_X8_passes_M_L2] at h
      refine lv_iload_n hx hb dX8_passes_2 rfl (lv_at hl 1 rfl) ?_
      refine lv_aload_n hx hb dX8_passes_3 rfl (lv_at hl 0 rfl) ?_
      refine va_get (D := (dC, dI)) (ci := 8) (v := .ref (a 2)) (C := RX8) (T := TX8) (N := 19) hx hb hts inX8_passes_X8 hown hK hP 0 (eM_0 a cy I A_2 T) rfl 3 (by decide) (hts _ mX8_passes_1) (fun _ h9 => h9) rfl dX8_passes_4 ?_
      refine lv_iconst (v := 0) hx hb dX8_passes_7 (by decide) ?_
      refine g_iald (f := (A_2 1)) (j := 0) hx hb hK hP 2 (eM_2 a cy I A_2 T) (lit_in (by decide) : vp_in 0 23) rfl dX8_passes_8 ?_
      refine lv_icmp_ge (tgt := 48) hx hb dX8_passes_9 (by decide) (fun c1 => ?_) (fun c1 => ?_)
      · replace h := ite_t h c1
        exact hk_2 _ _ h _ _ hP hD hS _ (lv_sub hl [0] rfl)
      · replace h := ite_f h c1
        refine lv_aload_n hx hb dX8_passes_12 rfl (lv_at hl 0 rfl) ?_
        refine va_get (D := (dC, dI)) (ci := 8) (v := .ref (a 4)) (C := RX8) (T := TX8) (N := 19) hx hb hts inX8_passes_X8 hown hK hP 0 (eM_0 a cy I A_2 T) rfl 5 (by decide) (hts _ mX8_passes_0) (fun _ h9 => h9) rfl dX8_passes_13 ?_
        refine lv_iconst (v := 3) hx hb dX8_passes_16 (by decide) ?_
        refine lv_iload_n hx hb dX8_passes_17 rfl (lv_at hl 1 rfl) ?_
        refine lv_iadd hx hb dX8_passes_18 ?_
        refine lv_aload_n hx hb dX8_passes_19 rfl (lv_at hl 0 rfl) ?_
        refine va_get (D := (dC, dI)) (ci := 8) (v := .ref (a 4)) (C := RX8) (T := TX8) (N := 19) hx hb hts inX8_passes_X8 hown hK hP 0 (eM_0 a cy I A_2 T) rfl 5 (by decide) (hts _ mX8_passes_0) (fun _ h9 => h9) rfl dX8_passes_20 ?_
        refine lv_iconst (v := 3) hx hb dX8_passes_23 (by decide) ?_
        refine lv_iload_n hx hb dX8_passes_24 rfl (lv_at hl 1 rfl) ?_
        refine lv_iadd hx hb dX8_passes_25 ?_
        obtain ⟨i2, h⟩ := inb_some h
        refine g_iald (f := (A_2 3)) (j := ((3 + x1)).toNatClampNeg) hx hb hK hP 4 (eM_4 a cy I A_2 T) i2 rfl dX8_passes_26 ?_
        refine lv_aload_n hx hb dX8_passes_27 rfl (lv_at hl 0 rfl) ?_
        refine lv_iload_n hx hb dX8_passes_28 rfl (lv_at hl 1 rfl) ?_
        refine lv_aload_n hx hb dX8_passes_29 rfl (lv_at hl 0 rfl) ?_
        refine va_get (D := (dC, dI)) (ci := 8) (v := .ref (a 4)) (C := RX8) (T := TX8) (N := 19) hx hb hts inX8_passes_X8 hown hK hP 0 (eM_0 a cy I A_2 T) rfl 5 (by decide) (hts _ mX8_passes_0) (fun _ h9 => h9) rfl dX8_passes_30 ?_
        refine lv_iconst (v := 1) hx hb dX8_passes_33 (by decide) ?_
        refine g_iald (f := (A_2 3)) (j := 1) hx hb hK hP 4 (eM_4 a cy I A_2 T) (lit_in (by decide) : vp_in 1 15) rfl dX8_passes_34 ?_
        obtain ⟨r3, hr3, h⟩ := bnd_some h
        refine g_callVi (As := [.int x1, .int ((A_2 3) 1)]) (rest := [.int ((A_2 3) ((3 + x1)).toNatClampNeg), .int (3 + x1), .ref (a 4)]) (ci := 8) (q0 := 0) hx hb hml hown hts (c_X8_cools_M l dC dI a cy N I A_2 T x1 ((A_2 3) 1) r3 hr3) (cwV 2 hts gX8_passes_X8_cools rfl rfl rfl (by decide +kernel) ⟨Nat.le_of_ble_eq_true rfl, Nat.le_of_ble_eq_true rfl⟩) hK hP hD hS hA rfl (eM_0 a cy I A_2 T) rfl rfl hl.1 rfl (Nat.le_of_ble_eq_true rfl) dX8_passes_35 (fun H locs hP hD hS => ?_)
        obtain ⟨r4, hr4, h⟩ := bnd_some h
        refine g_callSi (As := [.int ((A_2 3) ((3 + x1)).toNatClampNeg), .int r3]) (rest := [.int (3 + x1), .ref (a 4)]) hx hb hml hown hts (c_X8_less_M l dC dI a cy N I A_2 T ((A_2 3) ((3 + x1)).toNatClampNeg) r3 r4 hr4) (va_cwS 2 hts gX8_passes_X8_less rfl rfl rfl (by decide +kernel) ⟨Nat.le_of_ble_eq_true rfl, Nat.le_of_ble_eq_true rfl⟩) hK hP hD hS hA rfl hl.1 rfl (Nat.le_of_ble_eq_true rfl) dX8_passes_38 (fun H locs hP hD hS => ?_)
        refine g_iast (f := (A_2 3)) (j := ((3 + x1)).toNatClampNeg) hx hb hK hP hD hS 4 (eM_4 a cy I A_2 T) i2 rfl dX8_passes_41 (sM_4 a cy I A_2 T (upd (A_2 3) ((3 + x1)).toNatClampNeg r4)) (fun H locs hP hD hS => ?_)
        refine lv_iinc (v := (x1 + 1)) (lv' := [(1, .int (x1 + 1)), (0, .ref (a 0))]) hx hb dX8_passes_42 hl (k := 1) rfl rfl (by decide) rfl (fun ls hl => ?_)
        refine lv_goto (tgt := 2) hx hb dX8_passes_45 (by decide) ?_
        exact ih2 _ _ h _ _ hP hD hS _ (lv_sub hl [1, 0] rfl)
  refine lp2  _ ?_ N _ _ h _ _ hP hD hS _ (lv_sub hl [1, 0] rfl)
  intro x1 A_2 h H locs hP hD hS ls hl
  refine lv_aload_n hx hb dX8_passes_48 rfl (lv_at hl 0 rfl) ?_
  refine va_get (D := (dC, dI)) (ci := 8) (v := .ref (a 4)) (C := RX8) (T := TX8) (N := 19) hx hb hts inX8_passes_X8 hown hK hP 0 (eM_0 a cy I A_2 T) rfl 5 (by decide) (hts _ mX8_passes_0) (fun _ h9 => h9) rfl dX8_passes_49 ?_
  refine lv_iconst (v := 0) hx hb dX8_passes_52 (by decide) ?_
  refine lv_dup2_11 hx hb dX8_passes_53 rfl rfl ?_
  refine g_iald (f := (A_2 3)) (j := 0) hx hb hK hP 4 (eM_4 a cy I A_2 T) (lit_in (by decide) : vp_in 0 15) rfl dX8_passes_54 ?_
  refine lv_iconst (v := 1) hx hb dX8_passes_55 (by decide) ?_
  refine lv_iadd hx hb dX8_passes_56 ?_
  refine g_iast (f := (A_2 3)) (j := 0) hx hb hK hP hD hS 4 (eM_4 a cy I A_2 T) (lit_in (by decide) : vp_in 0 15) rfl dX8_passes_57 (sM_4 a cy I A_2 T (upd (A_2 3) 0 (((A_2 3) 0) + 1))) (fun H locs hP hD hS => ?_)
  obtain rfl := Option.some.inj h
  exact g_vret hx hb hr hK hP hD hS hQ dX8_passes_58
theorem inX8_hour_X8 : ∀ w ∈ u_ws RX8 TX8 19, w ∈ wsX8_hour := by decide +kernel
theorem mX8_hour_0 : Cond.fieldLink RX8 19 "WarmBottlesModel" "s" "[I" ∈ wsX8_hour := List.mem_of_getElem? (i := 1) rfl
def rm_X8_hour_M : Room := { frames := 7, cells := 0, slots := 0, locals := 330 }
def f_X8_hour_M (N : Nat) (I : Nat → Int32) (A : Nat → Nat → Int32)  : Option (Int32 × (Nat → Int32) × (Nat → Nat → Int32)) := (if ((A 3) 0) = 999 then some ((-2), I, A) else (Option.bind (f_X8_keeps_M N I A) (fun r2 => (Option.bind (f_X8_passes_M N r2.1 r2.2) (fun r3 => (Option.bind (f_X8_manyWarm_M N r2.1 r3) (fun r4 => some (r4, r2.1, r3))))))))
set_option maxHeartbeats 4000000 in
set_option maxRecDepth 100000 in
theorem c_X8_hour_M (l : Launch) (dC : Nat → ClassId) (dI : Nat → Nat → Nat) (a : Nat → Nat) (cy : Nat → ClassId) (N : Nat) (I : Nat → Int32) (A : Nat → Nat → Int32) (T : Int64)  (res : Int32 × (Nat → Int32) × (Nat → Nat → Int32)) (h : f_X8_hour_M N I A  = some res) (sz : Nat) : Met l yX8_hour wsX8_hour rm_X8_hour_M (g_Pre (dC, dI) cy [.ref (a 0)] (wM a cy I A T) sz) (g_Qi (dC, dI) cy res.1 (wM a cy I A T) (wM a cy res.2.1 res.2.2 T) sz) 0 0 (va_A (wM a cy I A T) sz) := by
  unfold f_X8_hour_M at h
  refine g_entry _ _ _ _ _ _ (cc := cX8_hour) (maxL := 1) (ret := (some .int)) (by decide) rfl (Nat.le_of_ble_eq_true rfl) ?_
  intro p e s m args below meth c ls hx hb hml hown hts hr hlocks hA hK hP hD hS hl Q hQ
  have hl : lv_has ls 1 [(0, .ref (a 0))] := hl
  have hown : s.vm.findClass RX8 = some m.cls := hown
  refine lv_aload_n hx hb dX8_hour_0 rfl (lv_at hl 0 rfl) ?_
  refine va_get (D := (dC, dI)) (ci := 8) (v := .ref (a 4)) (C := RX8) (T := TX8) (N := 19) hx hb hts inX8_hour_X8 hown hK hP 0 (eM_0 a cy I A T) rfl 5 (by decide) (hts _ mX8_hour_0) (fun _ h9 => h9) rfl dX8_hour_1 ?_
  refine lv_iconst (v := 0) hx hb dX8_hour_4 (by decide) ?_
  refine g_iald (f := (A 3)) (j := 0) hx hb hK hP 4 (eM_4 a cy I A T) (lit_in (by decide) : vp_in 0 15) rfl dX8_hour_5 ?_
  refine lv_sipush (v := 999) hx hb dX8_hour_6 (by decide) ?_
  refine lv_icmp_ne (tgt := 15) hx hb dX8_hour_9 (by decide) (fun c1 => ?_) (fun c1 => ?_)
  · replace h := ite_f h c1
    refine lv_aload_n hx hb dX8_hour_15 rfl (lv_at hl 0 rfl) ?_
    obtain ⟨r2, hr2, h⟩ := bnd_some h
    refine g_callVv (As := []) (rest := []) (ci := 8) (q0 := 0) hx hb hml hown hts (c_X8_keeps_M l dC dI a cy N I A T r2 hr2) (cwV 0 hts gX8_hour_X8_keeps rfl rfl rfl (by decide +kernel) ⟨Nat.le_of_ble_eq_true rfl, Nat.le_of_ble_eq_true rfl⟩) hK hP hD hS hA rfl (eM_0 a cy I A T) rfl rfl hl.1 rfl (Nat.le_of_ble_eq_true rfl) dX8_hour_16 (fun H locs hP hD hS => ?_)
    refine lv_aload_n hx hb dX8_hour_19 rfl (lv_at hl 0 rfl) ?_
    obtain ⟨r3, hr3, h⟩ := bnd_some h
    refine g_callVv (As := []) (rest := []) (ci := 8) (q0 := 0) hx hb hml hown hts (c_X8_passes_M l dC dI a cy N r2.1 r2.2 T r3 hr3) (cwV 0 hts gX8_hour_X8_passes rfl rfl rfl (by decide +kernel) ⟨Nat.le_of_ble_eq_true rfl, Nat.le_of_ble_eq_true rfl⟩) hK hP hD hS hA rfl (eM_0 a cy r2.1 r2.2 T) rfl rfl hl.1 rfl (Nat.le_of_ble_eq_true rfl) dX8_hour_20 (fun H locs hP hD hS => ?_)
    refine lv_aload_n hx hb dX8_hour_23 rfl (lv_at hl 0 rfl) ?_
    obtain ⟨r4, hr4, h⟩ := bnd_some h
    refine g_callVi (As := []) (rest := []) (ci := 8) (q0 := 0) hx hb hml hown hts (c_X8_manyWarm_M l dC dI a cy N r2.1 r3 T r4 hr4) (cwV 0 hts gX8_hour_X8_manyWarm rfl rfl rfl (by decide +kernel) ⟨Nat.le_of_ble_eq_true rfl, Nat.le_of_ble_eq_true rfl⟩) hK hP hD hS hA rfl (eM_0 a cy r2.1 r3 T) rfl rfl hl.1 rfl (Nat.le_of_ble_eq_true rfl) dX8_hour_24 (fun H locs hP hD hS => ?_)
    obtain rfl := Option.some.inj h
    exact g_iret hx hb hr hK hP hD hS hQ dX8_hour_27
  · replace h := ite_t h c1
    refine lv_bipush (v := (-2)) hx hb dX8_hour_12 (by decide) ?_
    obtain rfl := Option.some.inj h
    exact g_iret hx hb hr hK hP hD hS hQ dX8_hour_14
theorem inX8_filled_X8 : ∀ w ∈ u_ws RX8 TX8 19, w ∈ wsX8_filled := by decide +kernel
theorem mX8_filled_0 : Cond.fieldLink RX8 19 "WarmBottlesModel" "s" "[I" ∈ wsX8_filled := List.mem_of_getElem? (i := 1) rfl
theorem mX8_filled_1 : Cond.fieldLink RX8 13 "WarmBottlesModel" "told" "[I" ∈ wsX8_filled := List.mem_of_getElem? (i := 2) rfl
def rm_X8_filled_M : Room := { frames := 3, cells := 0, slots := 0, locals := 210 }
def f_X8_filled_M (N : Nat) (I : Nat → Int32) (A : Nat → Nat → Int32) (p1 : Int32) (p2 : Int32) : Option (Int32) := (if (3 + p1) < 0 ∨ 15 ≤ ((3 + p1)).toNatClampNeg then none else (if (((A 3) ((3 + p1)).toNatClampNeg) + (p2 * ((A 1) 2))) ≤ 99 then some (((A 3) ((3 + p1)).toNatClampNeg) + (p2 * ((A 1) 2))) else some 99))
set_option maxHeartbeats 4000000 in
set_option maxRecDepth 100000 in
theorem c_X8_filled_M (l : Launch) (dC : Nat → ClassId) (dI : Nat → Nat → Nat) (a : Nat → Nat) (cy : Nat → ClassId) (N : Nat) (I : Nat → Int32) (A : Nat → Nat → Int32) (T : Int64) (p1 : Int32) (p2 : Int32) (res : Int32) (h : f_X8_filled_M N I A p1 p2 = some res) (sz : Nat) : Met l yX8_filled wsX8_filled rm_X8_filled_M (g_Pre (dC, dI) cy [.ref (a 0), .int p1, .int p2] (wM a cy I A T) sz) (g_Qi (dC, dI) cy res (wM a cy I A T) (wM a cy I A T) sz) 0 0 (va_A (wM a cy I A T) sz) := by
  unfold f_X8_filled_M at h
  refine g_entry _ _ _ _ _ _ (cc := cX8_filled) (maxL := 4) (ret := (some .int)) (by decide) rfl (Nat.le_of_ble_eq_true rfl) ?_
  intro p e s m args below meth c ls hx hb hml hown hts hr hlocks hA hK hP hD hS hl Q hQ
  have hl : lv_has ls 4 [(0, .ref (a 0)), (1, .int p1), (2, .int p2)] := hl
  have hown : s.vm.findClass RX8 = some m.cls := hown
  refine lv_aload_n hx hb dX8_filled_0 rfl (lv_at hl 0 rfl) ?_
  refine va_get (D := (dC, dI)) (ci := 8) (v := .ref (a 4)) (C := RX8) (T := TX8) (N := 19) hx hb hts inX8_filled_X8 hown hK hP 0 (eM_0 a cy I A T) rfl 5 (by decide) (hts _ mX8_filled_0) (fun _ h9 => h9) rfl dX8_filled_1 ?_
  refine lv_iconst (v := 3) hx hb dX8_filled_4 (by decide) ?_
  refine lv_iload_n hx hb dX8_filled_5 rfl (lv_at hl 1 rfl) ?_
  refine lv_iadd hx hb dX8_filled_6 ?_
  obtain ⟨i1, h⟩ := inb_some h
  refine g_iald (f := (A 3)) (j := ((3 + p1)).toNatClampNeg) hx hb hK hP 4 (eM_4 a cy I A T) i1 rfl dX8_filled_7 ?_
  refine lv_iload_n hx hb dX8_filled_8 rfl (lv_at hl 2 rfl) ?_
  refine lv_aload_n hx hb dX8_filled_9 rfl (lv_at hl 0 rfl) ?_
  refine va_get (D := (dC, dI)) (ci := 8) (v := .ref (a 2)) (C := RX8) (T := TX8) (N := 19) hx hb hts inX8_filled_X8 hown hK hP 0 (eM_0 a cy I A T) rfl 3 (by decide) (hts _ mX8_filled_1) (fun _ h9 => h9) rfl dX8_filled_10 ?_
  refine lv_iconst (v := 2) hx hb dX8_filled_13 (by decide) ?_
  refine g_iald (f := (A 1)) (j := 2) hx hb hK hP 2 (eM_2 a cy I A T) (lit_in (by decide) : vp_in 2 23) rfl dX8_filled_14 ?_
  refine lv_imul hx hb dX8_filled_15 ?_
  refine lv_iadd hx hb dX8_filled_16 ?_
  refine lv_istore_n (lv' := [(3, .int (((A 3) ((3 + p1)).toNatClampNeg) + (p2 * ((A 1) 2)))), (0, .ref (a 0)), (1, .int p1), (2, .int p2)]) hx hb dX8_filled_17 rfl hl (by decide) rfl (fun ls hl => ?_)
  refine lv_iload_n hx hb dX8_filled_18 rfl (lv_at hl 0 rfl) ?_
  refine lv_bipush (v := 99) hx hb dX8_filled_19 (by decide) ?_
  refine lv_icmp_le (tgt := 29) hx hb dX8_filled_21 (by decide) (fun c2 => ?_) (fun c2 => ?_)
  · replace h := ite_t h c2
    refine lv_iload_n hx hb dX8_filled_29 rfl (lv_at hl 0 rfl) ?_
    obtain rfl := Option.some.inj h
    exact g_iret hx hb hr hK hP hD hS hQ dX8_filled_30
  · replace h := ite_f h c2
    refine lv_bipush (v := 99) hx hb dX8_filled_24 (by decide) ?_
    refine lv_goto (tgt := 30) hx hb dX8_filled_26 (by decide) ?_
    obtain rfl := Option.some.inj h
    exact g_iret hx hb hr hK hP hD hS hQ dX8_filled_30
theorem inX8_fills_X8 : ∀ w ∈ u_ws RX8 TX8 19, w ∈ wsX8_fills := by decide +kernel
theorem mX8_fills_0 : Cond.fieldLink RX8 19 "WarmBottlesModel" "s" "[I" ∈ wsX8_fills := List.mem_of_getElem? (i := 1) rfl
def rm_X8_fills_M : Room := { frames := 7, cells := 0, slots := 0, locals := 330 }
def f_X8_fills_M (N : Nat) (I : Nat → Int32) (A : Nat → Nat → Int32) (p1 : Int32) (p2 : Int32) : Option (Int32 × (Nat → Int32) × (Nat → Nat → Int32)) := (Option.bind (f_X8_isBottle_M N I A p1) (fun r1 => (if r1 = 0 then some ((-1), I, A) else (Option.bind (f_X8_in_M N I A p2 1 9) (fun r3 => (if r3 = 0 then some ((-1), I, A) else (if p2 ≤ ((A 3) 2) then (Option.bind (f_X8_keeps_M N I A) (fun r6 => (Option.bind (f_X8_filled_M N r6.1 r6.2 p1 p2) (fun r7 => (if (3 + p1) < 0 ∨ 15 ≤ ((3 + p1)).toNatClampNeg then none else some (((upd (upd (r6.2 3) ((3 + p1)).toNatClampNeg r7) 2 (((upd (r6.2 3) ((3 + p1)).toNatClampNeg r7) 2) - p2)) ((3 + p1)).toNatClampNeg), r6.1, (va_up (va_up r6.2 3 (upd (r6.2 3) ((3 + p1)).toNatClampNeg r7)) 3 (upd (upd (r6.2 3) ((3 + p1)).toNatClampNeg r7) 2 (((upd (r6.2 3) ((3 + p1)).toNatClampNeg r7) 2) - p2))))))))) else some ((-2), I, A))))))))
set_option maxHeartbeats 4000000 in
set_option maxRecDepth 100000 in
theorem c_X8_fills_M (l : Launch) (dC : Nat → ClassId) (dI : Nat → Nat → Nat) (a : Nat → Nat) (cy : Nat → ClassId) (N : Nat) (I : Nat → Int32) (A : Nat → Nat → Int32) (T : Int64) (p1 : Int32) (p2 : Int32) (res : Int32 × (Nat → Int32) × (Nat → Nat → Int32)) (h : f_X8_fills_M N I A p1 p2 = some res) (sz : Nat) : Met l yX8_fills wsX8_fills rm_X8_fills_M (g_Pre (dC, dI) cy [.ref (a 0), .int p1, .int p2] (wM a cy I A T) sz) (g_Qi (dC, dI) cy res.1 (wM a cy I A T) (wM a cy res.2.1 res.2.2 T) sz) 0 0 (va_A (wM a cy I A T) sz) := by
  unfold f_X8_fills_M at h
  refine g_entry _ _ _ _ _ _ (cc := cX8_fills) (maxL := 3) (ret := (some .int)) (by decide) rfl (Nat.le_of_ble_eq_true rfl) ?_
  intro p e s m args below meth c ls hx hb hml hown hts hr hlocks hA hK hP hD hS hl Q hQ
  have hl : lv_has ls 3 [(0, .ref (a 0)), (1, .int p1), (2, .int p2)] := hl
  have hown : s.vm.findClass RX8 = some m.cls := hown
  refine lv_aload_n hx hb dX8_fills_0 rfl (lv_at hl 0 rfl) ?_
  refine lv_iload_n hx hb dX8_fills_1 rfl (lv_at hl 1 rfl) ?_
  obtain ⟨r1, hr1, h⟩ := bnd_some h
  refine g_callVi (As := [.int p1]) (rest := []) (ci := 8) (q0 := 0) hx hb hml hown hts (c_X8_isBottle_M l dC dI a cy N I A T p1 r1 hr1) (cwV 1 hts gX8_fills_X8_isBottle rfl rfl rfl (by decide +kernel) ⟨Nat.le_of_ble_eq_true rfl, Nat.le_of_ble_eq_true rfl⟩) hK hP hD hS hA rfl (eM_0 a cy I A T) rfl rfl hl.1 rfl (Nat.le_of_ble_eq_true rfl) dX8_fills_2 (fun H locs hP hD hS => ?_)
  refine lv_if_eq (tgt := 18) hx hb dX8_fills_5 (by decide) (fun c2 => ?_) (fun c2 => ?_)
  · replace h := ite_t h c2
    refine lv_iconst (v := (-1)) hx hb dX8_fills_18 (by decide) ?_
    obtain rfl := Option.some.inj h
    exact g_iret hx hb hr hK hP hD hS hQ dX8_fills_19
  · replace h := ite_f h c2
    refine lv_iload_n hx hb dX8_fills_8 rfl (lv_at hl 2 rfl) ?_
    refine lv_iconst (v := 1) hx hb dX8_fills_9 (by decide) ?_
    refine lv_bipush (v := 9) hx hb dX8_fills_10 (by decide) ?_
    obtain ⟨r3, hr3, h⟩ := bnd_some h
    refine g_callSi (As := [.int p2, .int 1, .int 9]) (rest := []) hx hb hml hown hts (c_X8_in_M l dC dI a cy N I A T p2 1 9 r3 hr3) (va_cwS 3 hts gX8_fills_X8_in rfl rfl rfl (by decide +kernel) ⟨Nat.le_of_ble_eq_true rfl, Nat.le_of_ble_eq_true rfl⟩) hK hP hD hS hA rfl hl.1 rfl (Nat.le_of_ble_eq_true rfl) dX8_fills_12 (fun H locs hP hD hS => ?_)
    refine lv_if_ne (tgt := 20) hx hb dX8_fills_15 (by decide) (fun c4 => ?_) (fun c4 => ?_)
    · replace h := ite_f h c4
      refine lv_aload_n hx hb dX8_fills_20 rfl (lv_at hl 0 rfl) ?_
      refine va_get (D := (dC, dI)) (ci := 8) (v := .ref (a 4)) (C := RX8) (T := TX8) (N := 19) hx hb hts inX8_fills_X8 hown hK hP 0 (eM_0 a cy I A T) rfl 5 (by decide) (hts _ mX8_fills_0) (fun _ h9 => h9) rfl dX8_fills_21 ?_
      refine lv_iconst (v := 2) hx hb dX8_fills_24 (by decide) ?_
      refine g_iald (f := (A 3)) (j := 2) hx hb hK hP 4 (eM_4 a cy I A T) (lit_in (by decide) : vp_in 2 15) rfl dX8_fills_25 ?_
      refine lv_iload_n hx hb dX8_fills_26 rfl (lv_at hl 2 rfl) ?_
      refine lv_icmp_ge (tgt := 33) hx hb dX8_fills_27 (by decide) (fun c5 => ?_) (fun c5 => ?_)
      · replace h := ite_t h c5
        refine lv_aload_n hx hb dX8_fills_33 rfl (lv_at hl 0 rfl) ?_
        obtain ⟨r6, hr6, h⟩ := bnd_some h
        refine g_callVv (As := []) (rest := []) (ci := 8) (q0 := 0) hx hb hml hown hts (c_X8_keeps_M l dC dI a cy N I A T r6 hr6) (cwV 0 hts gX8_fills_X8_keeps rfl rfl rfl (by decide +kernel) ⟨Nat.le_of_ble_eq_true rfl, Nat.le_of_ble_eq_true rfl⟩) hK hP hD hS hA rfl (eM_0 a cy I A T) rfl rfl hl.1 rfl (Nat.le_of_ble_eq_true rfl) dX8_fills_34 (fun H locs hP hD hS => ?_)
        refine lv_aload_n hx hb dX8_fills_37 rfl (lv_at hl 0 rfl) ?_
        refine va_get (D := (dC, dI)) (ci := 8) (v := .ref (a 4)) (C := RX8) (T := TX8) (N := 19) hx hb hts inX8_fills_X8 hown hK hP 0 (eM_0 a cy r6.1 r6.2 T) rfl 5 (by decide) (hts _ mX8_fills_0) (fun _ h9 => h9) rfl dX8_fills_38 ?_
        refine lv_iconst (v := 3) hx hb dX8_fills_41 (by decide) ?_
        refine lv_iload_n hx hb dX8_fills_42 rfl (lv_at hl 1 rfl) ?_
        refine lv_iadd hx hb dX8_fills_43 ?_
        refine lv_aload_n hx hb dX8_fills_44 rfl (lv_at hl 0 rfl) ?_
        refine lv_iload_n hx hb dX8_fills_45 rfl (lv_at hl 1 rfl) ?_
        refine lv_iload_n hx hb dX8_fills_46 rfl (lv_at hl 2 rfl) ?_
        obtain ⟨r7, hr7, h⟩ := bnd_some h
        refine g_callVi (As := [.int p1, .int p2]) (rest := [.int (3 + p1), .ref (a 4)]) (ci := 8) (q0 := 0) hx hb hml hown hts (c_X8_filled_M l dC dI a cy N r6.1 r6.2 T p1 p2 r7 hr7) (cwV 2 hts gX8_fills_X8_filled rfl rfl rfl (by decide +kernel) ⟨Nat.le_of_ble_eq_true rfl, Nat.le_of_ble_eq_true rfl⟩) hK hP hD hS hA rfl (eM_0 a cy r6.1 r6.2 T) rfl rfl hl.1 rfl (Nat.le_of_ble_eq_true rfl) dX8_fills_47 (fun H locs hP hD hS => ?_)
        obtain ⟨i8, h⟩ := inb_some h
        refine g_iast (f := (r6.2 3)) (j := ((3 + p1)).toNatClampNeg) hx hb hK hP hD hS 4 (eM_4 a cy r6.1 r6.2 T) i8 rfl dX8_fills_50 (sM_4 a cy r6.1 r6.2 T (upd (r6.2 3) ((3 + p1)).toNatClampNeg r7)) (fun H locs hP hD hS => ?_)
        refine lv_aload_n hx hb dX8_fills_51 rfl (lv_at hl 0 rfl) ?_
        refine va_get (D := (dC, dI)) (ci := 8) (v := .ref (a 4)) (C := RX8) (T := TX8) (N := 19) hx hb hts inX8_fills_X8 hown hK hP 0 (eM_0 a cy r6.1 (va_up r6.2 3 (upd (r6.2 3) ((3 + p1)).toNatClampNeg r7)) T) rfl 5 (by decide) (hts _ mX8_fills_0) (fun _ h9 => h9) rfl dX8_fills_52 ?_
        refine lv_iconst (v := 2) hx hb dX8_fills_55 (by decide) ?_
        refine lv_dup2_11 hx hb dX8_fills_56 rfl rfl ?_
        refine g_iald (f := (upd (r6.2 3) ((3 + p1)).toNatClampNeg r7)) (j := 2) hx hb hK hP 4 (eM_4 a cy r6.1 (va_up r6.2 3 (upd (r6.2 3) ((3 + p1)).toNatClampNeg r7)) T) (lit_in (by decide) : vp_in 2 15) rfl dX8_fills_57 ?_
        refine lv_iload_n hx hb dX8_fills_58 rfl (lv_at hl 2 rfl) ?_
        refine lv_isub hx hb dX8_fills_59 ?_
        refine g_iast (f := (upd (r6.2 3) ((3 + p1)).toNatClampNeg r7)) (j := 2) hx hb hK hP hD hS 4 (eM_4 a cy r6.1 (va_up r6.2 3 (upd (r6.2 3) ((3 + p1)).toNatClampNeg r7)) T) (lit_in (by decide) : vp_in 2 15) rfl dX8_fills_60 (sM_4 a cy r6.1 (va_up r6.2 3 (upd (r6.2 3) ((3 + p1)).toNatClampNeg r7)) T (upd (upd (r6.2 3) ((3 + p1)).toNatClampNeg r7) 2 (((upd (r6.2 3) ((3 + p1)).toNatClampNeg r7) 2) - p2))) (fun H locs hP hD hS => ?_)
        refine lv_aload_n hx hb dX8_fills_61 rfl (lv_at hl 0 rfl) ?_
        refine va_get (D := (dC, dI)) (ci := 8) (v := .ref (a 4)) (C := RX8) (T := TX8) (N := 19) hx hb hts inX8_fills_X8 hown hK hP 0 (eM_0 a cy r6.1 (va_up (va_up r6.2 3 (upd (r6.2 3) ((3 + p1)).toNatClampNeg r7)) 3 (upd (upd (r6.2 3) ((3 + p1)).toNatClampNeg r7) 2 (((upd (r6.2 3) ((3 + p1)).toNatClampNeg r7) 2) - p2))) T) rfl 5 (by decide) (hts _ mX8_fills_0) (fun _ h9 => h9) rfl dX8_fills_62 ?_
        refine lv_iconst (v := 3) hx hb dX8_fills_65 (by decide) ?_
        refine lv_iload_n hx hb dX8_fills_66 rfl (lv_at hl 1 rfl) ?_
        refine lv_iadd hx hb dX8_fills_67 ?_
        refine g_iald (f := (upd (upd (r6.2 3) ((3 + p1)).toNatClampNeg r7) 2 (((upd (r6.2 3) ((3 + p1)).toNatClampNeg r7) 2) - p2))) (j := ((3 + p1)).toNatClampNeg) hx hb hK hP 4 (eM_4 a cy r6.1 (va_up (va_up r6.2 3 (upd (r6.2 3) ((3 + p1)).toNatClampNeg r7)) 3 (upd (upd (r6.2 3) ((3 + p1)).toNatClampNeg r7) 2 (((upd (r6.2 3) ((3 + p1)).toNatClampNeg r7) 2) - p2))) T) i8 rfl dX8_fills_68 ?_
        obtain rfl := Option.some.inj h
        exact g_iret hx hb hr hK hP hD hS hQ dX8_fills_69
      · replace h := ite_f h c5
        refine lv_bipush (v := (-2)) hx hb dX8_fills_30 (by decide) ?_
        obtain rfl := Option.some.inj h
        exact g_iret hx hb hr hK hP hD hS hQ dX8_fills_32
    · replace h := ite_t h c4
      refine lv_iconst (v := (-1)) hx hb dX8_fills_18 (by decide) ?_
      obtain rfl := Option.some.inj h
      exact g_iret hx hb hr hK hP hD hS hQ dX8_fills_19
theorem inX8_lays_X8 : ∀ w ∈ u_ws RX8 TX8 19, w ∈ wsX8_lays := by decide +kernel
theorem mX8_lays_0 : Cond.fieldLink RX8 19 "WarmBottlesModel" "s" "[I" ∈ wsX8_lays := List.mem_of_getElem? (i := 1) rfl
def rm_X8_lays_M : Room := { frames := 7, cells := 0, slots := 0, locals := 330 }
def f_X8_lays_M (N : Nat) (I : Nat → Int32) (A : Nat → Nat → Int32) (p1 : Int32) (p2 : Int32) : Option (Int32 × (Nat → Int32) × (Nat → Nat → Int32)) := (Option.bind (f_X8_isBottle_M N I A p1) (fun r1 => (if r1 = 0 then some ((-1), I, A) else (Option.bind (f_X8_isBottle_M N I A p2) (fun r3 => (if r3 = 0 then some ((-1), I, A) else (if (9 + p1) < 0 ∨ 15 ≤ ((9 + p1)).toNatClampNeg then none else (if ((A 3) ((9 + p1)).toNatClampNeg) = p2 then some ((-2), I, A) else (Option.bind (f_X8_keeps_M N I A) (fun r7 => some (((r7.2 3) ((9 + p1)).toNatClampNeg), r7.1, (va_up r7.2 3 (upd (r7.2 3) ((9 + p1)).toNatClampNeg p2)))))))))))))
set_option maxHeartbeats 4000000 in
set_option maxRecDepth 100000 in
theorem c_X8_lays_M (l : Launch) (dC : Nat → ClassId) (dI : Nat → Nat → Nat) (a : Nat → Nat) (cy : Nat → ClassId) (N : Nat) (I : Nat → Int32) (A : Nat → Nat → Int32) (T : Int64) (p1 : Int32) (p2 : Int32) (res : Int32 × (Nat → Int32) × (Nat → Nat → Int32)) (h : f_X8_lays_M N I A p1 p2 = some res) (sz : Nat) : Met l yX8_lays wsX8_lays rm_X8_lays_M (g_Pre (dC, dI) cy [.ref (a 0), .int p1, .int p2] (wM a cy I A T) sz) (g_Qi (dC, dI) cy res.1 (wM a cy I A T) (wM a cy res.2.1 res.2.2 T) sz) 0 0 (va_A (wM a cy I A T) sz) := by
  unfold f_X8_lays_M at h
  refine g_entry _ _ _ _ _ _ (cc := cX8_lays) (maxL := 4) (ret := (some .int)) (by decide) rfl (Nat.le_of_ble_eq_true rfl) ?_
  intro p e s m args below meth c ls hx hb hml hown hts hr hlocks hA hK hP hD hS hl Q hQ
  have hl : lv_has ls 4 [(0, .ref (a 0)), (1, .int p1), (2, .int p2)] := hl
  have hown : s.vm.findClass RX8 = some m.cls := hown
  refine lv_aload_n hx hb dX8_lays_0 rfl (lv_at hl 0 rfl) ?_
  refine lv_iload_n hx hb dX8_lays_1 rfl (lv_at hl 1 rfl) ?_
  obtain ⟨r1, hr1, h⟩ := bnd_some h
  refine g_callVi (As := [.int p1]) (rest := []) (ci := 8) (q0 := 0) hx hb hml hown hts (c_X8_isBottle_M l dC dI a cy N I A T p1 r1 hr1) (cwV 1 hts gX8_lays_X8_isBottle rfl rfl rfl (by decide +kernel) ⟨Nat.le_of_ble_eq_true rfl, Nat.le_of_ble_eq_true rfl⟩) hK hP hD hS hA rfl (eM_0 a cy I A T) rfl rfl hl.1 rfl (Nat.le_of_ble_eq_true rfl) dX8_lays_2 (fun H locs hP hD hS => ?_)
  refine lv_if_eq (tgt := 16) hx hb dX8_lays_5 (by decide) (fun c2 => ?_) (fun c2 => ?_)
  · replace h := ite_t h c2
    refine lv_iconst (v := (-1)) hx hb dX8_lays_16 (by decide) ?_
    obtain rfl := Option.some.inj h
    exact g_iret hx hb hr hK hP hD hS hQ dX8_lays_17
  · replace h := ite_f h c2
    refine lv_aload_n hx hb dX8_lays_8 rfl (lv_at hl 0 rfl) ?_
    refine lv_iload_n hx hb dX8_lays_9 rfl (lv_at hl 2 rfl) ?_
    obtain ⟨r3, hr3, h⟩ := bnd_some h
    refine g_callVi (As := [.int p2]) (rest := []) (ci := 8) (q0 := 0) hx hb hml hown hts (c_X8_isBottle_M l dC dI a cy N I A T p2 r3 hr3) (cwV 1 hts gX8_lays_X8_isBottle rfl rfl rfl (by decide +kernel) ⟨Nat.le_of_ble_eq_true rfl, Nat.le_of_ble_eq_true rfl⟩) hK hP hD hS hA rfl (eM_0 a cy I A T) rfl rfl hl.1 rfl (Nat.le_of_ble_eq_true rfl) dX8_lays_10 (fun H locs hP hD hS => ?_)
    refine lv_if_ne (tgt := 18) hx hb dX8_lays_13 (by decide) (fun c4 => ?_) (fun c4 => ?_)
    · replace h := ite_f h c4
      refine lv_aload_n hx hb dX8_lays_18 rfl (lv_at hl 0 rfl) ?_
      refine va_get (D := (dC, dI)) (ci := 8) (v := .ref (a 4)) (C := RX8) (T := TX8) (N := 19) hx hb hts inX8_lays_X8 hown hK hP 0 (eM_0 a cy I A T) rfl 5 (by decide) (hts _ mX8_lays_0) (fun _ h9 => h9) rfl dX8_lays_19 ?_
      refine lv_bipush (v := 9) hx hb dX8_lays_22 (by decide) ?_
      refine lv_iload_n hx hb dX8_lays_24 rfl (lv_at hl 1 rfl) ?_
      refine lv_iadd hx hb dX8_lays_25 ?_
      obtain ⟨i5, h⟩ := inb_some h
      refine g_iald (f := (A 3)) (j := ((9 + p1)).toNatClampNeg) hx hb hK hP 4 (eM_4 a cy I A T) i5 rfl dX8_lays_26 ?_
      refine lv_iload_n hx hb dX8_lays_27 rfl (lv_at hl 2 rfl) ?_
      refine lv_icmp_ne (tgt := 34) hx hb dX8_lays_28 (by decide) (fun c6 => ?_) (fun c6 => ?_)
      · replace h := ite_f h c6
        refine lv_aload_n hx hb dX8_lays_34 rfl (lv_at hl 0 rfl) ?_
        obtain ⟨r7, hr7, h⟩ := bnd_some h
        refine g_callVv (As := []) (rest := []) (ci := 8) (q0 := 0) hx hb hml hown hts (c_X8_keeps_M l dC dI a cy N I A T r7 hr7) (cwV 0 hts gX8_lays_X8_keeps rfl rfl rfl (by decide +kernel) ⟨Nat.le_of_ble_eq_true rfl, Nat.le_of_ble_eq_true rfl⟩) hK hP hD hS hA rfl (eM_0 a cy I A T) rfl rfl hl.1 rfl (Nat.le_of_ble_eq_true rfl) dX8_lays_35 (fun H locs hP hD hS => ?_)
        refine lv_aload_n hx hb dX8_lays_38 rfl (lv_at hl 0 rfl) ?_
        refine va_get (D := (dC, dI)) (ci := 8) (v := .ref (a 4)) (C := RX8) (T := TX8) (N := 19) hx hb hts inX8_lays_X8 hown hK hP 0 (eM_0 a cy r7.1 r7.2 T) rfl 5 (by decide) (hts _ mX8_lays_0) (fun _ h9 => h9) rfl dX8_lays_39 ?_
        refine lv_bipush (v := 9) hx hb dX8_lays_42 (by decide) ?_
        refine lv_iload_n hx hb dX8_lays_44 rfl (lv_at hl 1 rfl) ?_
        refine lv_iadd hx hb dX8_lays_45 ?_
        refine g_iald (f := (r7.2 3)) (j := ((9 + p1)).toNatClampNeg) hx hb hK hP 4 (eM_4 a cy r7.1 r7.2 T) i5 rfl dX8_lays_46 ?_
        refine lv_istore_n (lv' := [(3, .int ((r7.2 3) ((9 + p1)).toNatClampNeg)), (0, .ref (a 0)), (1, .int p1), (2, .int p2)]) hx hb dX8_lays_47 rfl hl (by decide) rfl (fun ls hl => ?_)
        refine lv_aload_n hx hb dX8_lays_48 rfl (lv_at hl 1 rfl) ?_
        refine va_get (D := (dC, dI)) (ci := 8) (v := .ref (a 4)) (C := RX8) (T := TX8) (N := 19) hx hb hts inX8_lays_X8 hown hK hP 0 (eM_0 a cy r7.1 r7.2 T) rfl 5 (by decide) (hts _ mX8_lays_0) (fun _ h9 => h9) rfl dX8_lays_49 ?_
        refine lv_bipush (v := 9) hx hb dX8_lays_52 (by decide) ?_
        refine lv_iload_n hx hb dX8_lays_54 rfl (lv_at hl 2 rfl) ?_
        refine lv_iadd hx hb dX8_lays_55 ?_
        refine lv_iload_n hx hb dX8_lays_56 rfl (lv_at hl 3 rfl) ?_
        refine g_iast (f := (r7.2 3)) (j := ((9 + p1)).toNatClampNeg) hx hb hK hP hD hS 4 (eM_4 a cy r7.1 r7.2 T) i5 rfl dX8_lays_57 (sM_4 a cy r7.1 r7.2 T (upd (r7.2 3) ((9 + p1)).toNatClampNeg p2)) (fun H locs hP hD hS => ?_)
        refine lv_iload_n hx hb dX8_lays_58 rfl (lv_at hl 0 rfl) ?_
        obtain rfl := Option.some.inj h
        exact g_iret hx hb hr hK hP hD hS hQ dX8_lays_59
      · replace h := ite_t h c6
        refine lv_bipush (v := (-2)) hx hb dX8_lays_31 (by decide) ?_
        obtain rfl := Option.some.inj h
        exact g_iret hx hb hr hK hP hD hS hQ dX8_lays_33
    · replace h := ite_t h c4
      refine lv_iconst (v := (-1)) hx hb dX8_lays_16 (by decide) ?_
      obtain rfl := Option.some.inj h
      exact g_iret hx hb hr hK hP hD hS hQ dX8_lays_17
theorem inX8_spills_X8 : ∀ w ∈ u_ws RX8 TX8 19, w ∈ wsX8_spills := by decide +kernel
theorem mX8_spills_0 : Cond.fieldLink RX8 19 "WarmBottlesModel" "s" "[I" ∈ wsX8_spills := List.mem_of_getElem? (i := 1) rfl
def rm_X8_spills_M : Room := { frames := 7, cells := 0, slots := 0, locals := 330 }
def f_X8_spills_M (N : Nat) (I : Nat → Int32) (A : Nat → Nat → Int32) (p1 : Int32) : Option (Int32 × (Nat → Int32) × (Nat → Nat → Int32)) := (Option.bind (f_X8_isBottle_M N I A p1) (fun r1 => (if r1 = 0 then some ((-1), I, A) else (if (3 + p1) < 0 ∨ 15 ≤ ((3 + p1)).toNatClampNeg then none else (if ((A 3) ((3 + p1)).toNatClampNeg) = 0 then some ((-2), I, A) else (Option.bind (f_X8_keeps_M N I A) (fun r5 => some (((r5.2 3) ((3 + p1)).toNatClampNeg), r5.1, (va_up r5.2 3 (upd (r5.2 3) ((3 + p1)).toNatClampNeg 0))))))))))
set_option maxHeartbeats 4000000 in
set_option maxRecDepth 100000 in
theorem c_X8_spills_M (l : Launch) (dC : Nat → ClassId) (dI : Nat → Nat → Nat) (a : Nat → Nat) (cy : Nat → ClassId) (N : Nat) (I : Nat → Int32) (A : Nat → Nat → Int32) (T : Int64) (p1 : Int32) (res : Int32 × (Nat → Int32) × (Nat → Nat → Int32)) (h : f_X8_spills_M N I A p1 = some res) (sz : Nat) : Met l yX8_spills wsX8_spills rm_X8_spills_M (g_Pre (dC, dI) cy [.ref (a 0), .int p1] (wM a cy I A T) sz) (g_Qi (dC, dI) cy res.1 (wM a cy I A T) (wM a cy res.2.1 res.2.2 T) sz) 0 0 (va_A (wM a cy I A T) sz) := by
  unfold f_X8_spills_M at h
  refine g_entry _ _ _ _ _ _ (cc := cX8_spills) (maxL := 3) (ret := (some .int)) (by decide) rfl (Nat.le_of_ble_eq_true rfl) ?_
  intro p e s m args below meth c ls hx hb hml hown hts hr hlocks hA hK hP hD hS hl Q hQ
  have hl : lv_has ls 3 [(0, .ref (a 0)), (1, .int p1)] := hl
  have hown : s.vm.findClass RX8 = some m.cls := hown
  refine lv_aload_n hx hb dX8_spills_0 rfl (lv_at hl 0 rfl) ?_
  refine lv_iload_n hx hb dX8_spills_1 rfl (lv_at hl 1 rfl) ?_
  obtain ⟨r1, hr1, h⟩ := bnd_some h
  refine g_callVi (As := [.int p1]) (rest := []) (ci := 8) (q0 := 0) hx hb hml hown hts (c_X8_isBottle_M l dC dI a cy N I A T p1 r1 hr1) (cwV 1 hts gX8_spills_X8_isBottle rfl rfl rfl (by decide +kernel) ⟨Nat.le_of_ble_eq_true rfl, Nat.le_of_ble_eq_true rfl⟩) hK hP hD hS hA rfl (eM_0 a cy I A T) rfl rfl hl.1 rfl (Nat.le_of_ble_eq_true rfl) dX8_spills_2 (fun H locs hP hD hS => ?_)
  refine lv_if_ne (tgt := 10) hx hb dX8_spills_5 (by decide) (fun c2 => ?_) (fun c2 => ?_)
  · replace h := ite_f h c2
    refine lv_aload_n hx hb dX8_spills_10 rfl (lv_at hl 0 rfl) ?_
    refine va_get (D := (dC, dI)) (ci := 8) (v := .ref (a 4)) (C := RX8) (T := TX8) (N := 19) hx hb hts inX8_spills_X8 hown hK hP 0 (eM_0 a cy I A T) rfl 5 (by decide) (hts _ mX8_spills_0) (fun _ h9 => h9) rfl dX8_spills_11 ?_
    refine lv_iconst (v := 3) hx hb dX8_spills_14 (by decide) ?_
    refine lv_iload_n hx hb dX8_spills_15 rfl (lv_at hl 1 rfl) ?_
    refine lv_iadd hx hb dX8_spills_16 ?_
    obtain ⟨i3, h⟩ := inb_some h
    refine g_iald (f := (A 3)) (j := ((3 + p1)).toNatClampNeg) hx hb hK hP 4 (eM_4 a cy I A T) i3 rfl dX8_spills_17 ?_
    refine lv_if_ne (tgt := 24) hx hb dX8_spills_18 (by decide) (fun c4 => ?_) (fun c4 => ?_)
    · replace h := ite_f h c4
      refine lv_aload_n hx hb dX8_spills_24 rfl (lv_at hl 0 rfl) ?_
      obtain ⟨r5, hr5, h⟩ := bnd_some h
      refine g_callVv (As := []) (rest := []) (ci := 8) (q0 := 0) hx hb hml hown hts (c_X8_keeps_M l dC dI a cy N I A T r5 hr5) (cwV 0 hts gX8_spills_X8_keeps rfl rfl rfl (by decide +kernel) ⟨Nat.le_of_ble_eq_true rfl, Nat.le_of_ble_eq_true rfl⟩) hK hP hD hS hA rfl (eM_0 a cy I A T) rfl rfl hl.1 rfl (Nat.le_of_ble_eq_true rfl) dX8_spills_25 (fun H locs hP hD hS => ?_)
      refine lv_aload_n hx hb dX8_spills_28 rfl (lv_at hl 0 rfl) ?_
      refine va_get (D := (dC, dI)) (ci := 8) (v := .ref (a 4)) (C := RX8) (T := TX8) (N := 19) hx hb hts inX8_spills_X8 hown hK hP 0 (eM_0 a cy r5.1 r5.2 T) rfl 5 (by decide) (hts _ mX8_spills_0) (fun _ h9 => h9) rfl dX8_spills_29 ?_
      refine lv_iconst (v := 3) hx hb dX8_spills_32 (by decide) ?_
      refine lv_iload_n hx hb dX8_spills_33 rfl (lv_at hl 1 rfl) ?_
      refine lv_iadd hx hb dX8_spills_34 ?_
      refine g_iald (f := (r5.2 3)) (j := ((3 + p1)).toNatClampNeg) hx hb hK hP 4 (eM_4 a cy r5.1 r5.2 T) i3 rfl dX8_spills_35 ?_
      refine lv_istore_n (lv' := [(2, .int ((r5.2 3) ((3 + p1)).toNatClampNeg)), (0, .ref (a 0)), (1, .int p1)]) hx hb dX8_spills_36 rfl hl (by decide) rfl (fun ls hl => ?_)
      refine lv_aload_n hx hb dX8_spills_37 rfl (lv_at hl 1 rfl) ?_
      refine va_get (D := (dC, dI)) (ci := 8) (v := .ref (a 4)) (C := RX8) (T := TX8) (N := 19) hx hb hts inX8_spills_X8 hown hK hP 0 (eM_0 a cy r5.1 r5.2 T) rfl 5 (by decide) (hts _ mX8_spills_0) (fun _ h9 => h9) rfl dX8_spills_38 ?_
      refine lv_iconst (v := 3) hx hb dX8_spills_41 (by decide) ?_
      refine lv_iload_n hx hb dX8_spills_42 rfl (lv_at hl 2 rfl) ?_
      refine lv_iadd hx hb dX8_spills_43 ?_
      refine lv_iconst (v := 0) hx hb dX8_spills_44 (by decide) ?_
      refine g_iast (f := (r5.2 3)) (j := ((3 + p1)).toNatClampNeg) hx hb hK hP hD hS 4 (eM_4 a cy r5.1 r5.2 T) i3 rfl dX8_spills_45 (sM_4 a cy r5.1 r5.2 T (upd (r5.2 3) ((3 + p1)).toNatClampNeg 0)) (fun H locs hP hD hS => ?_)
      refine lv_iload_n hx hb dX8_spills_46 rfl (lv_at hl 0 rfl) ?_
      obtain rfl := Option.some.inj h
      exact g_iret hx hb hr hK hP hD hS hQ dX8_spills_47
    · replace h := ite_t h c4
      refine lv_bipush (v := (-2)) hx hb dX8_spills_21 (by decide) ?_
      obtain rfl := Option.some.inj h
      exact g_iret hx hb hr hK hP hD hS hQ dX8_spills_23
  · replace h := ite_t h c2
    refine lv_iconst (v := (-1)) hx hb dX8_spills_8 (by decide) ?_
    obtain rfl := Option.some.inj h
    exact g_iret hx hb hr hK hP hD hS hQ dX8_spills_9
theorem inX8_frosts_X8 : ∀ w ∈ u_ws RX8 TX8 19, w ∈ wsX8_frosts := by decide +kernel
theorem mX8_frosts_0 : Cond.fieldLink RX8 19 "WarmBottlesModel" "s" "[I" ∈ wsX8_frosts := List.mem_of_getElem? (i := 1) rfl
def rm_X8_frosts_M : Room := { frames := 5, cells := 0, slots := 0, locals := 270 }
def f_X8_frosts_M (N : Nat) (I : Nat → Int32) (A : Nat → Nat → Int32) (p1 : Int32) : Option (Int32 × (Nat → Int32) × (Nat → Nat → Int32)) := (Option.bind (f_X8_in_M N I A p1 0 9) (fun r1 => (if r1 = 0 then some ((-1), I, A) else (if ((A 3) 1) = p1 then some ((-2), I, A) else (Option.bind (f_X8_keeps_M N I A) (fun r4 => some (((r4.2 3) 1), r4.1, (va_up r4.2 3 (upd (r4.2 3) 1 p1)))))))))
set_option maxHeartbeats 4000000 in
set_option maxRecDepth 100000 in
theorem c_X8_frosts_M (l : Launch) (dC : Nat → ClassId) (dI : Nat → Nat → Nat) (a : Nat → Nat) (cy : Nat → ClassId) (N : Nat) (I : Nat → Int32) (A : Nat → Nat → Int32) (T : Int64) (p1 : Int32) (res : Int32 × (Nat → Int32) × (Nat → Nat → Int32)) (h : f_X8_frosts_M N I A p1 = some res) (sz : Nat) : Met l yX8_frosts wsX8_frosts rm_X8_frosts_M (g_Pre (dC, dI) cy [.ref (a 0), .int p1] (wM a cy I A T) sz) (g_Qi (dC, dI) cy res.1 (wM a cy I A T) (wM a cy res.2.1 res.2.2 T) sz) 0 0 (va_A (wM a cy I A T) sz) := by
  unfold f_X8_frosts_M at h
  refine g_entry _ _ _ _ _ _ (cc := cX8_frosts) (maxL := 3) (ret := (some .int)) (by decide) rfl (Nat.le_of_ble_eq_true rfl) ?_
  intro p e s m args below meth c ls hx hb hml hown hts hr hlocks hA hK hP hD hS hl Q hQ
  have hl : lv_has ls 3 [(0, .ref (a 0)), (1, .int p1)] := hl
  have hown : s.vm.findClass RX8 = some m.cls := hown
  refine lv_iload_n hx hb dX8_frosts_0 rfl (lv_at hl 1 rfl) ?_
  refine lv_iconst (v := 0) hx hb dX8_frosts_1 (by decide) ?_
  refine lv_bipush (v := 9) hx hb dX8_frosts_2 (by decide) ?_
  obtain ⟨r1, hr1, h⟩ := bnd_some h
  refine g_callSi (As := [.int p1, .int 0, .int 9]) (rest := []) hx hb hml hown hts (c_X8_in_M l dC dI a cy N I A T p1 0 9 r1 hr1) (va_cwS 3 hts gX8_frosts_X8_in rfl rfl rfl (by decide +kernel) ⟨Nat.le_of_ble_eq_true rfl, Nat.le_of_ble_eq_true rfl⟩) hK hP hD hS hA rfl hl.1 rfl (Nat.le_of_ble_eq_true rfl) dX8_frosts_4 (fun H locs hP hD hS => ?_)
  refine lv_if_ne (tgt := 12) hx hb dX8_frosts_7 (by decide) (fun c2 => ?_) (fun c2 => ?_)
  · replace h := ite_f h c2
    refine lv_aload_n hx hb dX8_frosts_12 rfl (lv_at hl 0 rfl) ?_
    refine va_get (D := (dC, dI)) (ci := 8) (v := .ref (a 4)) (C := RX8) (T := TX8) (N := 19) hx hb hts inX8_frosts_X8 hown hK hP 0 (eM_0 a cy I A T) rfl 5 (by decide) (hts _ mX8_frosts_0) (fun _ h9 => h9) rfl dX8_frosts_13 ?_
    refine lv_iconst (v := 1) hx hb dX8_frosts_16 (by decide) ?_
    refine g_iald (f := (A 3)) (j := 1) hx hb hK hP 4 (eM_4 a cy I A T) (lit_in (by decide) : vp_in 1 15) rfl dX8_frosts_17 ?_
    refine lv_iload_n hx hb dX8_frosts_18 rfl (lv_at hl 1 rfl) ?_
    refine lv_icmp_ne (tgt := 25) hx hb dX8_frosts_19 (by decide) (fun c3 => ?_) (fun c3 => ?_)
    · replace h := ite_f h c3
      refine lv_aload_n hx hb dX8_frosts_25 rfl (lv_at hl 0 rfl) ?_
      obtain ⟨r4, hr4, h⟩ := bnd_some h
      refine g_callVv (As := []) (rest := []) (ci := 8) (q0 := 0) hx hb hml hown hts (c_X8_keeps_M l dC dI a cy N I A T r4 hr4) (cwV 0 hts gX8_frosts_X8_keeps rfl rfl rfl (by decide +kernel) ⟨Nat.le_of_ble_eq_true rfl, Nat.le_of_ble_eq_true rfl⟩) hK hP hD hS hA rfl (eM_0 a cy I A T) rfl rfl hl.1 rfl (Nat.le_of_ble_eq_true rfl) dX8_frosts_26 (fun H locs hP hD hS => ?_)
      refine lv_aload_n hx hb dX8_frosts_29 rfl (lv_at hl 0 rfl) ?_
      refine va_get (D := (dC, dI)) (ci := 8) (v := .ref (a 4)) (C := RX8) (T := TX8) (N := 19) hx hb hts inX8_frosts_X8 hown hK hP 0 (eM_0 a cy r4.1 r4.2 T) rfl 5 (by decide) (hts _ mX8_frosts_0) (fun _ h9 => h9) rfl dX8_frosts_30 ?_
      refine lv_iconst (v := 1) hx hb dX8_frosts_33 (by decide) ?_
      refine g_iald (f := (r4.2 3)) (j := 1) hx hb hK hP 4 (eM_4 a cy r4.1 r4.2 T) (lit_in (by decide) : vp_in 1 15) rfl dX8_frosts_34 ?_
      refine lv_istore_n (lv' := [(2, .int ((r4.2 3) 1)), (0, .ref (a 0)), (1, .int p1)]) hx hb dX8_frosts_35 rfl hl (by decide) rfl (fun ls hl => ?_)
      refine lv_aload_n hx hb dX8_frosts_36 rfl (lv_at hl 1 rfl) ?_
      refine va_get (D := (dC, dI)) (ci := 8) (v := .ref (a 4)) (C := RX8) (T := TX8) (N := 19) hx hb hts inX8_frosts_X8 hown hK hP 0 (eM_0 a cy r4.1 r4.2 T) rfl 5 (by decide) (hts _ mX8_frosts_0) (fun _ h9 => h9) rfl dX8_frosts_37 ?_
      refine lv_iconst (v := 1) hx hb dX8_frosts_40 (by decide) ?_
      refine lv_iload_n hx hb dX8_frosts_41 rfl (lv_at hl 2 rfl) ?_
      refine g_iast (f := (r4.2 3)) (j := 1) hx hb hK hP hD hS 4 (eM_4 a cy r4.1 r4.2 T) (lit_in (by decide) : vp_in 1 15) rfl dX8_frosts_42 (sM_4 a cy r4.1 r4.2 T (upd (r4.2 3) 1 p1)) (fun H locs hP hD hS => ?_)
      refine lv_iload_n hx hb dX8_frosts_43 rfl (lv_at hl 0 rfl) ?_
      obtain rfl := Option.some.inj h
      exact g_iret hx hb hr hK hP hD hS hQ dX8_frosts_44
    · replace h := ite_t h c3
      refine lv_bipush (v := (-2)) hx hb dX8_frosts_22 (by decide) ?_
      obtain rfl := Option.some.inj h
      exact g_iret hx hb hr hK hP hD hS hQ dX8_frosts_24
  · replace h := ite_t h c2
    refine lv_iconst (v := (-1)) hx hb dX8_frosts_10 (by decide) ?_
    obtain rfl := Option.some.inj h
    exact g_iret hx hb hr hK hP hD hS hQ dX8_frosts_11
theorem inX8_boils_X8 : ∀ w ∈ u_ws RX8 TX8 19, w ∈ wsX8_boils := by decide +kernel
theorem mX8_boils_0 : Cond.fieldLink RX8 19 "WarmBottlesModel" "s" "[I" ∈ wsX8_boils := List.mem_of_getElem? (i := 1) rfl
theorem mX8_boils_1 : Cond.fieldLink RX8 13 "WarmBottlesModel" "told" "[I" ∈ wsX8_boils := List.mem_of_getElem? (i := 2) rfl
def rm_X8_boils_M : Room := { frames := 5, cells := 0, slots := 0, locals := 270 }
def f_X8_boils_M (N : Nat) (I : Nat → Int32) (A : Nat → Nat → Int32)  : Option (Int32 × (Nat → Int32) × (Nat → Nat → Int32)) := (if ((A 3) 2) = ((A 1) 1) then some ((-2), I, A) else (Option.bind (f_X8_keeps_M N I A) (fun r2 => some (((r2.2 3) 2), r2.1, (va_up r2.2 3 (upd (r2.2 3) 2 ((r2.2 1) 1)))))))
set_option maxHeartbeats 4000000 in
set_option maxRecDepth 100000 in
theorem c_X8_boils_M (l : Launch) (dC : Nat → ClassId) (dI : Nat → Nat → Nat) (a : Nat → Nat) (cy : Nat → ClassId) (N : Nat) (I : Nat → Int32) (A : Nat → Nat → Int32) (T : Int64)  (res : Int32 × (Nat → Int32) × (Nat → Nat → Int32)) (h : f_X8_boils_M N I A  = some res) (sz : Nat) : Met l yX8_boils wsX8_boils rm_X8_boils_M (g_Pre (dC, dI) cy [.ref (a 0)] (wM a cy I A T) sz) (g_Qi (dC, dI) cy res.1 (wM a cy I A T) (wM a cy res.2.1 res.2.2 T) sz) 0 0 (va_A (wM a cy I A T) sz) := by
  unfold f_X8_boils_M at h
  refine g_entry _ _ _ _ _ _ (cc := cX8_boils) (maxL := 2) (ret := (some .int)) (by decide) rfl (Nat.le_of_ble_eq_true rfl) ?_
  intro p e s m args below meth c ls hx hb hml hown hts hr hlocks hA hK hP hD hS hl Q hQ
  have hl : lv_has ls 2 [(0, .ref (a 0))] := hl
  have hown : s.vm.findClass RX8 = some m.cls := hown
  refine lv_aload_n hx hb dX8_boils_0 rfl (lv_at hl 0 rfl) ?_
  refine va_get (D := (dC, dI)) (ci := 8) (v := .ref (a 4)) (C := RX8) (T := TX8) (N := 19) hx hb hts inX8_boils_X8 hown hK hP 0 (eM_0 a cy I A T) rfl 5 (by decide) (hts _ mX8_boils_0) (fun _ h9 => h9) rfl dX8_boils_1 ?_
  refine lv_iconst (v := 2) hx hb dX8_boils_4 (by decide) ?_
  refine g_iald (f := (A 3)) (j := 2) hx hb hK hP 4 (eM_4 a cy I A T) (lit_in (by decide) : vp_in 2 15) rfl dX8_boils_5 ?_
  refine lv_aload_n hx hb dX8_boils_6 rfl (lv_at hl 0 rfl) ?_
  refine va_get (D := (dC, dI)) (ci := 8) (v := .ref (a 2)) (C := RX8) (T := TX8) (N := 19) hx hb hts inX8_boils_X8 hown hK hP 0 (eM_0 a cy I A T) rfl 3 (by decide) (hts _ mX8_boils_1) (fun _ h9 => h9) rfl dX8_boils_7 ?_
  refine lv_iconst (v := 1) hx hb dX8_boils_10 (by decide) ?_
  refine g_iald (f := (A 1)) (j := 1) hx hb hK hP 2 (eM_2 a cy I A T) (lit_in (by decide) : vp_in 1 23) rfl dX8_boils_11 ?_
  refine lv_icmp_ne (tgt := 18) hx hb dX8_boils_12 (by decide) (fun c1 => ?_) (fun c1 => ?_)
  · replace h := ite_f h c1
    refine lv_aload_n hx hb dX8_boils_18 rfl (lv_at hl 0 rfl) ?_
    obtain ⟨r2, hr2, h⟩ := bnd_some h
    refine g_callVv (As := []) (rest := []) (ci := 8) (q0 := 0) hx hb hml hown hts (c_X8_keeps_M l dC dI a cy N I A T r2 hr2) (cwV 0 hts gX8_boils_X8_keeps rfl rfl rfl (by decide +kernel) ⟨Nat.le_of_ble_eq_true rfl, Nat.le_of_ble_eq_true rfl⟩) hK hP hD hS hA rfl (eM_0 a cy I A T) rfl rfl hl.1 rfl (Nat.le_of_ble_eq_true rfl) dX8_boils_19 (fun H locs hP hD hS => ?_)
    refine lv_aload_n hx hb dX8_boils_22 rfl (lv_at hl 0 rfl) ?_
    refine va_get (D := (dC, dI)) (ci := 8) (v := .ref (a 4)) (C := RX8) (T := TX8) (N := 19) hx hb hts inX8_boils_X8 hown hK hP 0 (eM_0 a cy r2.1 r2.2 T) rfl 5 (by decide) (hts _ mX8_boils_0) (fun _ h9 => h9) rfl dX8_boils_23 ?_
    refine lv_iconst (v := 2) hx hb dX8_boils_26 (by decide) ?_
    refine g_iald (f := (r2.2 3)) (j := 2) hx hb hK hP 4 (eM_4 a cy r2.1 r2.2 T) (lit_in (by decide) : vp_in 2 15) rfl dX8_boils_27 ?_
    refine lv_istore_n (lv' := [(1, .int ((r2.2 3) 2)), (0, .ref (a 0))]) hx hb dX8_boils_28 rfl hl (by decide) rfl (fun ls hl => ?_)
    refine lv_aload_n hx hb dX8_boils_29 rfl (lv_at hl 1 rfl) ?_
    refine va_get (D := (dC, dI)) (ci := 8) (v := .ref (a 4)) (C := RX8) (T := TX8) (N := 19) hx hb hts inX8_boils_X8 hown hK hP 0 (eM_0 a cy r2.1 r2.2 T) rfl 5 (by decide) (hts _ mX8_boils_0) (fun _ h9 => h9) rfl dX8_boils_30 ?_
    refine lv_iconst (v := 2) hx hb dX8_boils_33 (by decide) ?_
    refine lv_aload_n hx hb dX8_boils_34 rfl (lv_at hl 1 rfl) ?_
    refine va_get (D := (dC, dI)) (ci := 8) (v := .ref (a 2)) (C := RX8) (T := TX8) (N := 19) hx hb hts inX8_boils_X8 hown hK hP 0 (eM_0 a cy r2.1 r2.2 T) rfl 3 (by decide) (hts _ mX8_boils_1) (fun _ h9 => h9) rfl dX8_boils_35 ?_
    refine lv_iconst (v := 1) hx hb dX8_boils_38 (by decide) ?_
    refine g_iald (f := (r2.2 1)) (j := 1) hx hb hK hP 2 (eM_2 a cy r2.1 r2.2 T) (lit_in (by decide) : vp_in 1 23) rfl dX8_boils_39 ?_
    refine g_iast (f := (r2.2 3)) (j := 2) hx hb hK hP hD hS 4 (eM_4 a cy r2.1 r2.2 T) (lit_in (by decide) : vp_in 2 15) rfl dX8_boils_40 (sM_4 a cy r2.1 r2.2 T (upd (r2.2 3) 2 ((r2.2 1) 1))) (fun H locs hP hD hS => ?_)
    refine lv_iload_n hx hb dX8_boils_41 rfl (lv_at hl 0 rfl) ?_
    obtain rfl := Option.some.inj h
    exact g_iret hx hb hr hK hP hD hS hQ dX8_boils_42
  · replace h := ite_t h c1
    refine lv_bipush (v := (-2)) hx hb dX8_boils_15 (by decide) ?_
    obtain rfl := Option.some.inj h
    exact g_iret hx hb hr hK hP hD hS hQ dX8_boils_17
theorem inX8_undo_X8 : ∀ w ∈ u_ws RX8 TX8 19, w ∈ wsX8_undo := by decide +kernel
theorem mX8_undo_0 : Cond.fieldLink RX8 92 "WarmBottlesModel" "known" "I" ∈ wsX8_undo := List.mem_of_getElem? (i := 1) rfl
theorem mX8_undo_1 : Cond.fieldLink RX8 19 "WarmBottlesModel" "s" "[I" ∈ wsX8_undo := List.mem_of_getElem? (i := 2) rfl
theorem mX8_undo_2 : Cond.fieldLink RX8 22 "WarmBottlesModel" "past" "[I" ∈ wsX8_undo := List.mem_of_getElem? (i := 3) rfl
def rm_X8_undo_M : Room := { frames := 3, cells := 0, slots := 0, locals := 210 }
def f_X8_undo_M_L22 (N : Nat) (k_22 : Int32 → (Nat → Nat → Int32) → Option (Int32 × (Nat → Int32) × (Nat → Nat → Int32))) (I_22 : (Nat → Int32)) : Nat → Int32 → (Nat → Nat → Int32) → Option (Int32 × (Nat → Int32) × (Nat → Nat → Int32))
  | 0, _, _ => none
  | n_22 + 1, x1, A_22 => (if 15 ≤ x1 then (k_22 x1 A_22) else (if ((15 * (I_22 1)) + x1) < 0 ∨ 150 ≤ (((15 * (I_22 1)) + x1)).toNatClampNeg then none else (if x1 < 0 ∨ 15 ≤ x1.toNatClampNeg then none else (f_X8_undo_M_L22 N k_22 I_22 n_22 (x1 + 1) (va_up A_22 3 (upd (A_22 3) x1.toNatClampNeg ((A_22 4) (((15 * (I_22 1)) + x1)).toNatClampNeg)))))))
def f_X8_undo_M (N : Nat) (I : Nat → Int32) (A : Nat → Nat → Int32)  : Option (Int32 × (Nat → Int32) × (Nat → Nat → Int32)) := (if (I 1) = 0 then some ((-2), I, A) else (f_X8_undo_M_L22 N (fun (x1 : Int32) (A_22 : (Nat → Nat → Int32)) => some (((I 1) - 1), (upd I 1 ((I 1) - 1)), A_22)) (upd I 1 ((I 1) - 1)) N 0 A))
set_option maxHeartbeats 4000000 in
set_option maxRecDepth 100000 in
theorem c_X8_undo_M (l : Launch) (dC : Nat → ClassId) (dI : Nat → Nat → Nat) (a : Nat → Nat) (cy : Nat → ClassId) (N : Nat) (I : Nat → Int32) (A : Nat → Nat → Int32) (T : Int64)  (res : Int32 × (Nat → Int32) × (Nat → Nat → Int32)) (h : f_X8_undo_M N I A  = some res) (sz : Nat) : Met l yX8_undo wsX8_undo rm_X8_undo_M (g_Pre (dC, dI) cy [.ref (a 0)] (wM a cy I A T) sz) (g_Qi (dC, dI) cy res.1 (wM a cy I A T) (wM a cy res.2.1 res.2.2 T) sz) 0 0 (va_A (wM a cy I A T) sz) := by
  unfold f_X8_undo_M at h
  refine g_entry _ _ _ _ _ _ (cc := cX8_undo) (maxL := 2) (ret := (some .int)) (by decide) rfl (Nat.le_of_ble_eq_true rfl) ?_
  intro p e s m args below meth c ls hx hb hml hown hts hr hlocks hA hK hP hD hS hl Q hQ
  have hl : lv_has ls 2 [(0, .ref (a 0))] := hl
  have hown : s.vm.findClass RX8 = some m.cls := hown
  refine lv_aload_n hx hb dX8_undo_0 rfl (lv_at hl 0 rfl) ?_
  refine va_get (D := (dC, dI)) (ci := 8) (v := .int (I 1)) (C := RX8) (T := TX8) (N := 19) hx hb hts inX8_undo_X8 hown hK hP 0 (eM_0 a cy I A T) rfl 7 (by decide) (hts _ mX8_undo_0) (fun _ h9 => h9) rfl dX8_undo_1 ?_
  refine lv_if_ne (tgt := 10) hx hb dX8_undo_4 (by decide) (fun c1 => ?_) (fun c1 => ?_)
  · replace h := ite_f h c1
    refine lv_aload_n hx hb dX8_undo_10 rfl (lv_at hl 0 rfl) ?_
    refine lv_dup hx hb dX8_undo_11 rfl ?_
    refine va_get (D := (dC, dI)) (ci := 8) (v := .int (I 1)) (C := RX8) (T := TX8) (N := 19) hx hb hts inX8_undo_X8 hown hK hP 0 (eM_0 a cy I A T) rfl 7 (by decide) (hts _ mX8_undo_0) (fun _ h9 => h9) rfl dX8_undo_12 ?_
    refine lv_iconst (v := 1) hx hb dX8_undo_15 (by decide) ?_
    refine lv_isub hx hb dX8_undo_16 ?_
    refine g_put (D := (dC, dI)) (ci := 8) (v := .int ((I 1) - 1)) (ty := .int) (C := RX8) (T := TX8) (N := 19) hx hb hts inX8_undo_X8 tyX8 tyX8_ok nmX8 hown hK hP hD hS 0 (eM_0 a cy I A T) rfl 7 (by decide) (hts _ mX8_undo_0) (fun _ h9 => h9) rfl (by decide +kernel) rfl rfl (Nat.le_of_ble_eq_true rfl) dX8_undo_17 (pM_0_7 a cy I A T ((I 1) - 1)) (fun H locs hP hD hS => ?_)
    refine lv_iconst (v := 0) hx hb dX8_undo_20 (by decide) ?_
    refine lv_istore_n (lv' := [(1, .int 0), (0, .ref (a 0))]) hx hb dX8_undo_21 rfl hl (by decide) rfl (fun ls hl => ?_)
    have lp22 : ∀ (I_22 : (Nat → Int32)) (k_22 : Int32 → (Nat → Nat → Int32) → Option (Int32 × (Nat → Int32) × (Nat → Nat → Int32))), (∀ (x1 : Int32) (A_22 : (Nat → Nat → Int32)), k_22 x1 A_22 = some res → g_At (dC, dI) p l e (headSpec wsX8_undo rm_X8_undo_M).room s m args below meth c Q (wM a cy I A T) sz 2 (wM a cy I_22 A_22 T) [(0, .ref (a 0))] 54 []) → ∀ (n_22 : Nat) (x1 : Int32) (A_22 : (Nat → Nat → Int32)), f_X8_undo_M_L22 N k_22 I_22 n_22 x1 A_22 = some res → g_At (dC, dI) p l e (headSpec wsX8_undo rm_X8_undo_M).room s m args below meth c Q (wM a cy I A T) sz 2 (wM a cy I_22 A_22 T) [(0, .ref (a 0)), (1, .int x1)] 22 [] := by
      intro I_22 k_22 hk_22 n_22
      induction n_22 with
      | zero =>
        intro x1 A_22 h
        exact absurd h (by rw [f_X8_undo_M_L22]; exact fun q => by cases q)
      | succ n_22 ih22 =>
        intro x1 A_22 h H locs hP hD hS ls hl
        rw [f_X8_undo_M_L22] at h
        refine lv_iload_n hx hb dX8_undo_22 rfl (lv_at hl 1 rfl) ?_
        refine lv_bipush (v := 15) hx hb dX8_undo_23 (by decide) ?_
        refine lv_icmp_ge (tgt := 54) hx hb dX8_undo_25 (by decide) (fun c2 => ?_) (fun c2 => ?_)
        · replace h := ite_t h c2
          exact hk_22 _ _ h _ _ hP hD hS _ (lv_sub hl [0] rfl)
        · replace h := ite_f h c2
          refine lv_aload_n hx hb dX8_undo_28 rfl (lv_at hl 0 rfl) ?_
          refine va_get (D := (dC, dI)) (ci := 8) (v := .ref (a 4)) (C := RX8) (T := TX8) (N := 19) hx hb hts inX8_undo_X8 hown hK hP 0 (eM_0 a cy I_22 A_22 T) rfl 5 (by decide) (hts _ mX8_undo_1) (fun _ h9 => h9) rfl dX8_undo_29 ?_
          refine lv_iload_n hx hb dX8_undo_32 rfl (lv_at hl 1 rfl) ?_
          refine lv_aload_n hx hb dX8_undo_33 rfl (lv_at hl 0 rfl) ?_
          refine va_get (D := (dC, dI)) (ci := 8) (v := .ref (a 5)) (C := RX8) (T := TX8) (N := 19) hx hb hts inX8_undo_X8 hown hK hP 0 (eM_0 a cy I_22 A_22 T) rfl 6 (by decide) (hts _ mX8_undo_2) (fun _ h9 => h9) rfl dX8_undo_34 ?_
          refine lv_bipush (v := 15) hx hb dX8_undo_37 (by decide) ?_
          refine lv_aload_n hx hb dX8_undo_39 rfl (lv_at hl 0 rfl) ?_
          refine va_get (D := (dC, dI)) (ci := 8) (v := .int (I_22 1)) (C := RX8) (T := TX8) (N := 19) hx hb hts inX8_undo_X8 hown hK hP 0 (eM_0 a cy I_22 A_22 T) rfl 7 (by decide) (hts _ mX8_undo_0) (fun _ h9 => h9) rfl dX8_undo_40 ?_
          refine lv_imul hx hb dX8_undo_43 ?_
          refine lv_iload_n hx hb dX8_undo_44 rfl (lv_at hl 1 rfl) ?_
          refine lv_iadd hx hb dX8_undo_45 ?_
          obtain ⟨i3, h⟩ := inb_some h
          refine g_iald (f := (A_22 4)) (j := (((15 * (I_22 1)) + x1)).toNatClampNeg) hx hb hK hP 5 (eM_5 a cy I_22 A_22 T) i3 rfl dX8_undo_46 ?_
          obtain ⟨i4, h⟩ := inb_some h
          refine g_iast (f := (A_22 3)) (j := x1.toNatClampNeg) hx hb hK hP hD hS 4 (eM_4 a cy I_22 A_22 T) i4 rfl dX8_undo_47 (sM_4 a cy I_22 A_22 T (upd (A_22 3) x1.toNatClampNeg ((A_22 4) (((15 * (I_22 1)) + x1)).toNatClampNeg))) (fun H locs hP hD hS => ?_)
          refine lv_iinc (v := (x1 + 1)) (lv' := [(1, .int (x1 + 1)), (0, .ref (a 0))]) hx hb dX8_undo_48 hl (k := 1) rfl rfl (by decide) rfl (fun ls hl => ?_)
          refine lv_goto (tgt := 22) hx hb dX8_undo_51 (by decide) ?_
          exact ih22 _ _ h _ _ hP hD hS _ (lv_sub hl [1, 0] rfl)
    refine lp22 _ _ ?_ N _ _ h _ _ hP hD hS _ (lv_sub hl [1, 0] rfl)
    intro x1 A_22 h H locs hP hD hS ls hl
    refine lv_aload_n hx hb dX8_undo_54 rfl (lv_at hl 0 rfl) ?_
    refine va_get (D := (dC, dI)) (ci := 8) (v := .int ((I 1) - 1)) (C := RX8) (T := TX8) (N := 19) hx hb hts inX8_undo_X8 hown hK hP 0 (eM_0 a cy (upd I 1 ((I 1) - 1)) A_22 T) rfl 7 (by decide) (hts _ mX8_undo_0) (fun _ h9 => h9) rfl dX8_undo_55 ?_
    obtain rfl := Option.some.inj h
    exact g_iret hx hb hr hK hP hD hS hQ dX8_undo_58
  · replace h := ite_t h c1
    refine lv_bipush (v := (-2)) hx hb dX8_undo_7 (by decide) ?_
    obtain rfl := Option.some.inj h
    exact g_iret hx hb hr hK hP hD hS hQ dX8_undo_9
theorem inX8_pints_X8 : ∀ w ∈ u_ws RX8 TX8 19, w ∈ wsX8_pints := by decide +kernel
theorem mX8_pints_0 : Cond.fieldLink RX8 19 "WarmBottlesModel" "s" "[I" ∈ wsX8_pints := List.mem_of_getElem? (i := 1) rfl
def rm_X8_pints_M : Room := { frames := 5, cells := 0, slots := 0, locals := 270 }
def f_X8_pints_M_L7 (N : Nat) (k_7 : Int32 → Int32 → Option (Int32)) (x1 : Int32) (x2 : Int32) (I : (Nat → Int32)) (A : (Nat → Nat → Int32)) : Nat → Int32 → Int32 → Option (Int32)
  | 0, _, _ => none
  | n_7 + 1, x3, x4 => (if x4 < 0 then (k_7 x3 x4) else (Option.bind (f_X8_filled_M N I A x2 x4) (fun r2 => (Option.bind (f_X8_cools_M N I A x2 ((A 3) 1)) (fun r3 => (if r2 ≤ (x1 * r3) then (f_X8_pints_M_L7 N k_7 x1 x2 I A n_7 x3 (x4 + (-1))) else (f_X8_pints_M_L7 N k_7 x1 x2 I A n_7 x4 (x4 + (-1)))))))))
def f_X8_pints_M (N : Nat) (I : Nat → Int32) (A : Nat → Nat → Int32) (p1 : Int32) (p2 : Int32) : Option (Int32) := (f_X8_pints_M_L7 N (fun (x3 : Int32) (x4 : Int32) => some x3) p1 p2 I A N (-9) 9)
set_option maxHeartbeats 4000000 in
set_option maxRecDepth 100000 in
theorem c_X8_pints_M (l : Launch) (dC : Nat → ClassId) (dI : Nat → Nat → Nat) (a : Nat → Nat) (cy : Nat → ClassId) (N : Nat) (I : Nat → Int32) (A : Nat → Nat → Int32) (T : Int64) (p1 : Int32) (p2 : Int32) (res : Int32) (h : f_X8_pints_M N I A p1 p2 = some res) (sz : Nat) : Met l yX8_pints wsX8_pints rm_X8_pints_M (g_Pre (dC, dI) cy [.ref (a 0), .int p1, .int p2] (wM a cy I A T) sz) (g_Qi (dC, dI) cy res (wM a cy I A T) (wM a cy I A T) sz) 0 0 (va_A (wM a cy I A T) sz) := by
  unfold f_X8_pints_M at h
  refine g_entry _ _ _ _ _ _ (cc := cX8_pints) (maxL := 5) (ret := (some .int)) (by decide) rfl (Nat.le_of_ble_eq_true rfl) ?_
  intro p e s m args below meth c ls hx hb hml hown hts hr hlocks hA hK hP hD hS hl Q hQ
  have hl : lv_has ls 5 [(0, .ref (a 0)), (1, .int p1), (2, .int p2)] := hl
  have hown : s.vm.findClass RX8 = some m.cls := hown
  refine lv_bipush (v := (-9)) hx hb dX8_pints_0 (by decide) ?_
  refine lv_istore_n (lv' := [(3, .int (-9)), (0, .ref (a 0)), (1, .int p1), (2, .int p2)]) hx hb dX8_pints_2 rfl hl (by decide) rfl (fun ls hl => ?_)
  refine lv_bipush (v := 9) hx hb dX8_pints_3 (by decide) ?_
  refine lv_istore (lv' := [(4, .int 9), (3, .int (-9)), (0, .ref (a 0)), (1, .int p1), (2, .int p2)]) hx hb dX8_pints_5 hl (by decide) rfl (fun ls hl => ?_)
  have lp7 : ∀ (x1 : Int32) (x2 : Int32) (k_7 : Int32 → Int32 → Option (Int32)), (∀ (x3 : Int32) (x4 : Int32), k_7 x3 x4 = some res → g_At (dC, dI) p l e (headSpec wsX8_pints rm_X8_pints_M).room s m args below meth c Q (wM a cy I A T) sz 5 (wM a cy I A T) [(3, .int x3)] 48 []) → ∀ (n_7 : Nat) (x3 : Int32) (x4 : Int32), f_X8_pints_M_L7 N k_7 x1 x2 I A n_7 x3 x4 = some res → g_At (dC, dI) p l e (headSpec wsX8_pints rm_X8_pints_M).room s m args below meth c Q (wM a cy I A T) sz 5 (wM a cy I A T) [(0, .ref (a 0)), (1, .int x1), (2, .int x2), (3, .int x3), (4, .int x4)] 7 [] := by
    intro x1 x2 k_7 hk_7 n_7
    induction n_7 with
    | zero =>
      intro x3 x4 h
      exact absurd h (by rw [f_X8_pints_M_L7]; exact fun q => by cases q)
    | succ n_7 ih7 =>
      intro x3 x4 h H locs hP hD hS ls hl
      rw [f_X8_pints_M_L7] at h
      refine lv_iload hx hb dX8_pints_7 (lv_at hl 4 rfl) ?_
      refine lv_if_lt (tgt := 48) hx hb dX8_pints_9 (by decide) (fun c1 => ?_) (fun c1 => ?_)
      · replace h := ite_t h c1
        exact hk_7 _ _ h _ _ hP hD hS _ (lv_sub hl [3] rfl)
      · replace h := ite_f h c1
        refine lv_aload_n hx hb dX8_pints_12 rfl (lv_at hl 0 rfl) ?_
        refine lv_iload_n hx hb dX8_pints_13 rfl (lv_at hl 2 rfl) ?_
        refine lv_iload hx hb dX8_pints_14 (lv_at hl 4 rfl) ?_
        obtain ⟨r2, hr2, h⟩ := bnd_some h
        refine g_callVi (As := [.int x2, .int x4]) (rest := []) (ci := 8) (q0 := 0) hx hb hml hown hts (c_X8_filled_M l dC dI a cy N I A T x2 x4 r2 hr2) (cwV 2 hts gX8_pints_X8_filled rfl rfl rfl (by decide +kernel) ⟨Nat.le_of_ble_eq_true rfl, Nat.le_of_ble_eq_true rfl⟩) hK hP hD hS hA rfl (eM_0 a cy I A T) rfl rfl hl.1 rfl (Nat.le_of_ble_eq_true rfl) dX8_pints_16 (fun H locs hP hD hS => ?_)
        refine lv_iload_n hx hb dX8_pints_19 rfl (lv_at hl 1 rfl) ?_
        refine lv_aload_n hx hb dX8_pints_20 rfl (lv_at hl 0 rfl) ?_
        refine lv_iload_n hx hb dX8_pints_21 rfl (lv_at hl 2 rfl) ?_
        refine lv_aload_n hx hb dX8_pints_22 rfl (lv_at hl 0 rfl) ?_
        refine va_get (D := (dC, dI)) (ci := 8) (v := .ref (a 4)) (C := RX8) (T := TX8) (N := 19) hx hb hts inX8_pints_X8 hown hK hP 0 (eM_0 a cy I A T) rfl 5 (by decide) (hts _ mX8_pints_0) (fun _ h9 => h9) rfl dX8_pints_23 ?_
        refine lv_iconst (v := 1) hx hb dX8_pints_26 (by decide) ?_
        refine g_iald (f := (A 3)) (j := 1) hx hb hK hP 4 (eM_4 a cy I A T) (lit_in (by decide) : vp_in 1 15) rfl dX8_pints_27 ?_
        obtain ⟨r3, hr3, h⟩ := bnd_some h
        refine g_callVi (As := [.int x2, .int ((A 3) 1)]) (rest := [.int x1, .int r2]) (ci := 8) (q0 := 0) hx hb hml hown hts (c_X8_cools_M l dC dI a cy N I A T x2 ((A 3) 1) r3 hr3) (cwV 2 hts gX8_pints_X8_cools rfl rfl rfl (by decide +kernel) ⟨Nat.le_of_ble_eq_true rfl, Nat.le_of_ble_eq_true rfl⟩) hK hP hD hS hA rfl (eM_0 a cy I A T) rfl rfl hl.1 rfl (Nat.le_of_ble_eq_true rfl) dX8_pints_28 (fun H locs hP hD hS => ?_)
        refine lv_imul hx hb dX8_pints_31 ?_
        refine lv_icmp_le (tgt := 40) hx hb dX8_pints_32 (by decide) (fun c4 => ?_) (fun c4 => ?_)
        · replace h := ite_t h c4
          refine lv_iload_n hx hb dX8_pints_40 rfl (lv_at hl 3 rfl) ?_
          refine lv_istore_n (lv' := [(3, .int x3), (0, .ref (a 0)), (1, .int x1), (2, .int x2), (4, .int x4)]) hx hb dX8_pints_41 rfl hl (by decide) rfl (fun ls hl => ?_)
          refine lv_iinc (v := (x4 + (-1))) (lv' := [(4, .int (x4 + (-1))), (3, .int x3), (0, .ref (a 0)), (1, .int x1), (2, .int x2)]) hx hb dX8_pints_42 hl (k := 4) rfl rfl (by decide) rfl (fun ls hl => ?_)
          refine lv_goto (tgt := 7) hx hb dX8_pints_45 (by decide) ?_
          exact ih7 _ _ h _ _ hP hD hS _ (lv_sub hl [2, 3, 4, 1, 0] rfl)
        · replace h := ite_f h c4
          refine lv_iload hx hb dX8_pints_35 (lv_at hl 4 rfl) ?_
          refine lv_goto (tgt := 41) hx hb dX8_pints_37 (by decide) ?_
          refine lv_istore_n (lv' := [(3, .int x4), (0, .ref (a 0)), (1, .int x1), (2, .int x2), (4, .int x4)]) hx hb dX8_pints_41 rfl hl (by decide) rfl (fun ls hl => ?_)
          refine lv_iinc (v := (x4 + (-1))) (lv' := [(4, .int (x4 + (-1))), (3, .int x4), (0, .ref (a 0)), (1, .int x1), (2, .int x2)]) hx hb dX8_pints_42 hl (k := 4) rfl rfl (by decide) rfl (fun ls hl => ?_)
          refine lv_goto (tgt := 7) hx hb dX8_pints_45 (by decide) ?_
          exact ih7 _ _ h _ _ hP hD hS _ (lv_sub hl [2, 3, 4, 1, 0] rfl)
  refine lp7 _ _ _ ?_ N _ _ h _ _ hP hD hS _ (lv_sub hl [2, 3, 4, 1, 0] rfl)
  intro x3 x4 h H locs hP hD hS ls hl
  refine lv_iload_n hx hb dX8_pints_48 rfl (lv_at hl 0 rfl) ?_
  obtain rfl := Option.some.inj h
  exact g_iret hx hb hr hK hP hD hS hQ dX8_pints_49
