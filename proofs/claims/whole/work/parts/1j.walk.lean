theorem inX8_letterAt_X8 : ∀ w ∈ u_ws RX8 TX8 19, w ∈ wsX8_letterAt := by decide +kernel
theorem mX8_letterAt_0 : Cond.fieldLink RX8 55 "WarmBottlesModel" "typed" "I" ∈ wsX8_letterAt := List.mem_of_getElem? (i := 1) rfl
theorem mX8_letterAt_1 : Cond.fieldLink RX8 7 "WarmBottlesModel" "text" "[I" ∈ wsX8_letterAt := List.mem_of_getElem? (i := 2) rfl
def rm_X8_letterAt_M : Room := { frames := 3, cells := 0, slots := 0, locals := 210 }
def f_X8_letterAt_M (N : Nat) (I : Nat → Int32) (A : Nat → Nat → Int32) (p1 : Int32) : Option (Int32) := (if (I 0) ≤ p1 then some (-1) else (if p1 < 0 ∨ 120 ≤ p1.toNatClampNeg then none else some ((A 0) p1.toNatClampNeg)))
set_option maxHeartbeats 4000000 in
set_option maxRecDepth 100000 in
theorem c_X8_letterAt_M (l : Launch) (dC : Nat → ClassId) (dI : Nat → Nat → Nat) (a : Nat → Nat) (cy : Nat → ClassId) (N : Nat) (I : Nat → Int32) (A : Nat → Nat → Int32) (T : Int64) (p1 : Int32) (res : Int32) (h : f_X8_letterAt_M N I A p1 = some res) (sz : Nat) : Met l yX8_letterAt wsX8_letterAt rm_X8_letterAt_M (g_Pre (dC, dI) cy [.ref (a 0), .int p1] (wM a cy I A T) sz) (g_Qi (dC, dI) cy res (wM a cy I A T) (wM a cy I A T) sz) 0 0 (va_A (wM a cy I A T) sz) := by
  unfold f_X8_letterAt_M at h
  refine g_entry _ _ _ _ _ _ (cc := cX8_letterAt) (maxL := 2) (ret := (some .int)) (by decide) rfl (Nat.le_of_ble_eq_true rfl) ?_
  intro p e s m args below meth c ls hx hb hml hown hts hr hlocks hA hK hP hD hS hl Q hQ
  have hl : lv_has ls 2 [(0, .ref (a 0)), (1, .int p1)] := hl
  have hown : s.vm.findClass RX8 = some m.cls := hown
  refine lv_iload_n hx hb dX8_letterAt_0 rfl (lv_at hl 1 rfl) ?_
  refine lv_aload_n hx hb dX8_letterAt_1 rfl (lv_at hl 0 rfl) ?_
  refine va_get (D := (dC, dI)) (ci := 8) (v := .int (I 0)) (C := RX8) (T := TX8) (N := 19) hx hb hts inX8_letterAt_X8 hown hK hP 0 (eM_0 a cy I A T) rfl 2 (by decide) (hts _ mX8_letterAt_0) (fun _ h9 => h9) rfl dX8_letterAt_2 ?_
  refine lv_icmp_ge (tgt := 17) hx hb dX8_letterAt_5 (by decide) (fun c1 => ?_) (fun c1 => ?_)
  · replace h := ite_t h c1
    refine lv_iconst (v := (-1)) hx hb dX8_letterAt_17 (by decide) ?_
    obtain rfl := Option.some.inj h
    exact g_iret hx hb hr hK hP hD hS hQ dX8_letterAt_18
  · replace h := ite_f h c1
    refine lv_aload_n hx hb dX8_letterAt_8 rfl (lv_at hl 0 rfl) ?_
    refine va_get (D := (dC, dI)) (ci := 8) (v := .ref (a 1)) (C := RX8) (T := TX8) (N := 19) hx hb hts inX8_letterAt_X8 hown hK hP 0 (eM_0 a cy I A T) rfl 1 (by decide) (hts _ mX8_letterAt_1) (fun _ h9 => h9) rfl dX8_letterAt_9 ?_
    refine lv_iload_n hx hb dX8_letterAt_12 rfl (lv_at hl 1 rfl) ?_
    obtain ⟨i2, h⟩ := inb_some h
    refine g_iald (f := (A 0)) (j := p1.toNatClampNeg) hx hb hK hP 1 (eM_1 a cy I A T) i2 rfl dX8_letterAt_13 ?_
    refine lv_goto (tgt := 18) hx hb dX8_letterAt_14 (by decide) ?_
    obtain rfl := Option.some.inj h
    exact g_iret hx hb hr hK hP hD hS hQ dX8_letterAt_18
def rm_X8_in_M : Room := { frames := 3, cells := 0, slots := 0, locals := 210 }
def f_X8_in_M (N : Nat) (I : Nat → Int32) (A : Nat → Nat → Int32) (p0 : Int32) (p1 : Int32) (p2 : Int32) : Option (Int32) := (if p0 < p1 then some 0 else (if p2 < p0 then some 0 else some 1))
set_option maxHeartbeats 4000000 in
set_option maxRecDepth 100000 in
theorem c_X8_in_M (l : Launch) (dC : Nat → ClassId) (dI : Nat → Nat → Nat) (a : Nat → Nat) (cy : Nat → ClassId) (N : Nat) (I : Nat → Int32) (A : Nat → Nat → Int32) (T : Int64) (p0 : Int32) (p1 : Int32) (p2 : Int32) (res : Int32) (h : f_X8_in_M N I A p0 p1 p2 = some res) (sz : Nat) : Met l yX8_in wsX8_in rm_X8_in_M (g_Pre (dC, dI) cy [.int p0, .int p1, .int p2] (wM a cy I A T) sz) (g_Qi (dC, dI) cy res (wM a cy I A T) (wM a cy I A T) sz) 0 0 (va_A (wM a cy I A T) sz) := by
  unfold f_X8_in_M at h
  refine g_entry _ _ _ _ _ _ (cc := cX8_in) (maxL := 3) (ret := (some .boolean)) (by decide) rfl (Nat.le_of_ble_eq_true rfl) ?_
  intro p e s m args below meth c ls hx hb hml hown hts hr hlocks hA hK hP hD hS hl Q hQ
  have hl : lv_has ls 3 [(0, .int p0), (1, .int p1), (2, .int p2)] := hl
  have hown : s.vm.findClass RX8 = some m.cls := hown
  refine lv_iload_n hx hb dX8_in_0 rfl (lv_at hl 0 rfl) ?_
  refine lv_iload_n hx hb dX8_in_1 rfl (lv_at hl 1 rfl) ?_
  refine lv_icmp_lt (tgt := 14) hx hb dX8_in_2 (by decide) (fun c1 => ?_) (fun c1 => ?_)
  · replace h := ite_t h c1
    refine lv_iconst (v := 0) hx hb dX8_in_14 (by decide) ?_
    obtain rfl := Option.some.inj h
    exact g_zret hx hb hr (by decide) hK hP hD hS hQ dX8_in_15
  · replace h := ite_f h c1
    refine lv_iload_n hx hb dX8_in_5 rfl (lv_at hl 0 rfl) ?_
    refine lv_iload_n hx hb dX8_in_6 rfl (lv_at hl 2 rfl) ?_
    refine lv_icmp_gt (tgt := 14) hx hb dX8_in_7 (by decide) (fun c2 => ?_) (fun c2 => ?_)
    · replace h := ite_t h c2
      refine lv_iconst (v := 0) hx hb dX8_in_14 (by decide) ?_
      obtain rfl := Option.some.inj h
      exact g_zret hx hb hr (by decide) hK hP hD hS hQ dX8_in_15
    · replace h := ite_f h c2
      refine lv_iconst (v := 1) hx hb dX8_in_10 (by decide) ?_
      refine lv_goto (tgt := 15) hx hb dX8_in_11 (by decide) ?_
      obtain rfl := Option.some.inj h
      exact g_zret hx hb hr (by decide) hK hP hD hS hQ dX8_in_15
def rm_X8_isDigit_M : Room := { frames := 5, cells := 0, slots := 0, locals := 270 }
def f_X8_isDigit_M (N : Nat) (I : Nat → Int32) (A : Nat → Nat → Int32) (p0 : Int32) : Option (Int32) := (Option.bind (f_X8_in_M N I A p0 48 57) (fun r1 => (if r1 = 0 ∨ r1 = 1 then some r1 else none)))
set_option maxHeartbeats 4000000 in
set_option maxRecDepth 100000 in
theorem c_X8_isDigit_M (l : Launch) (dC : Nat → ClassId) (dI : Nat → Nat → Nat) (a : Nat → Nat) (cy : Nat → ClassId) (N : Nat) (I : Nat → Int32) (A : Nat → Nat → Int32) (T : Int64) (p0 : Int32) (res : Int32) (h : f_X8_isDigit_M N I A p0 = some res) (sz : Nat) : Met l yX8_isDigit wsX8_isDigit rm_X8_isDigit_M (g_Pre (dC, dI) cy [.int p0] (wM a cy I A T) sz) (g_Qi (dC, dI) cy res (wM a cy I A T) (wM a cy I A T) sz) 0 0 (va_A (wM a cy I A T) sz) := by
  unfold f_X8_isDigit_M at h
  refine g_entry _ _ _ _ _ _ (cc := cX8_isDigit) (maxL := 1) (ret := (some .boolean)) (by decide) rfl (Nat.le_of_ble_eq_true rfl) ?_
  intro p e s m args below meth c ls hx hb hml hown hts hr hlocks hA hK hP hD hS hl Q hQ
  have hl : lv_has ls 1 [(0, .int p0)] := hl
  have hown : s.vm.findClass RX8 = some m.cls := hown
  refine lv_iload_n hx hb dX8_isDigit_0 rfl (lv_at hl 0 rfl) ?_
  refine lv_bipush (v := 48) hx hb dX8_isDigit_1 (by decide) ?_
  refine lv_bipush (v := 57) hx hb dX8_isDigit_3 (by decide) ?_
  obtain ⟨r1, hr1, h⟩ := bnd_some h
  refine g_callSi (As := [.int p0, .int 48, .int 57]) (rest := []) hx hb hml hown hts (c_X8_in_M l dC dI a cy N I A T p0 48 57 r1 hr1) (va_cwS 3 hts gX8_isDigit_X8_in rfl rfl rfl (by decide +kernel) ⟨Nat.le_of_ble_eq_true rfl, Nat.le_of_ble_eq_true rfl⟩) hK hP hD hS hA rfl hl.1 rfl (Nat.le_of_ble_eq_true rfl) dX8_isDigit_5 (fun H locs hP hD hS => ?_)
  obtain ⟨b2, h⟩ := bool_some h
  obtain rfl := Option.some.inj h
  exact g_zret hx hb hr b2 hK hP hD hS hQ dX8_isDigit_8
theorem inX8_token_X8 : ∀ w ∈ u_ws RX8 TX8 19, w ∈ wsX8_token := by decide +kernel
theorem mX8_token_0 : Cond.fieldLink RX8 59 "WarmBottlesModel" "at" "I" ∈ wsX8_token := List.mem_of_getElem? (i := 1) rfl
theorem mX8_token_1 : Cond.fieldLink RX8 66 "WarmBottlesModel" "start" "I" ∈ wsX8_token := List.mem_of_getElem? (i := 2) rfl
theorem mX8_token_2 : Cond.fieldLink RX8 73 "WarmBottlesModel" "sort" "I" ∈ wsX8_token := List.mem_of_getElem? (i := 3) rfl
theorem mX8_token_3 : Cond.fieldLink RX8 76 "WarmBottlesModel" "value" "I" ∈ wsX8_token := List.mem_of_getElem? (i := 4) rfl
theorem mX8_token_4 : Cond.fieldLink RX8 7 "WarmBottlesModel" "text" "[I" ∈ wsX8_token := List.mem_of_getElem? (i := 5) rfl
def rm_X8_token_M : Room := { frames := 7, cells := 0, slots := 0, locals := 330 }
def f_X8_token_M_L141 (N : Nat) (k_141 : (Nat → Int32) → Option ((Nat → Int32))) (x1 : Int32) (A : (Nat → Nat → Int32)) : Nat → (Nat → Int32) → Option ((Nat → Int32))
  | 0, _ => none
  | n_141 + 1, I_141 => (Option.bind (f_X8_letterAt_M N I_141 A (I_141 3)) (fun r19 => (Option.bind (f_X8_isDigit_M N I_141 A r19) (fun r20 => (if r20 = 0 then (k_141 I_141) else (if x1 = 48 then (f_X8_token_M_L141 N k_141 x1 A n_141 (upd (upd I_141 6 1000) 3 ((I_141 3) + 1))) else (if (I_141 6) ≤ 99 then (if (I_141 3) < 0 ∨ 120 ≤ ((I_141 3)).toNatClampNeg then none else (f_X8_token_M_L141 N k_141 x1 A n_141 (upd (upd I_141 6 (((10 * (I_141 6)) + ((A 0) ((I_141 3)).toNatClampNeg)) - 48)) 3 ((I_141 3) + 1)))) else (f_X8_token_M_L141 N k_141 x1 A n_141 (upd (upd I_141 6 1000) 3 ((I_141 3) + 1))))))))))
def f_X8_token_M_L0 (N : Nat) (k_0 : (Nat → Int32) → Option ((Nat → Int32))) (A : (Nat → Nat → Int32)) : Nat → (Nat → Int32) → Option ((Nat → Int32))
  | 0, _ => none
  | n_0 + 1, I_0 => (Option.bind (f_X8_letterAt_M N I_0 A (I_0 3)) (fun r29 => (if r29 = 32 then (f_X8_token_M_L0 N k_0 A n_0 (upd I_0 3 ((I_0 3) + 1))) else (k_0 I_0))))
def f_X8_token_M (N : Nat) (I : Nat → Int32) (A : Nat → Nat → Int32)  : Option ((Nat → Int32)) := (f_X8_token_M_L0 N (fun (I_0 : (Nat → Int32)) => (Option.bind (f_X8_letterAt_M N (upd I_0 5 (I_0 3)) A (I_0 3)) (fun r1 => (if 0 ≤ r1 then (if r1 = 98 then some (upd (upd (upd (upd I_0 5 (I_0 3)) 4 1) 6 r1) 3 ((I_0 3) + 1)) else (if r1 = 107 then some (upd (upd (upd (upd I_0 5 (I_0 3)) 4 1) 6 r1) 3 ((I_0 3) + 1)) else (if r1 = 112 then some (upd (upd (upd (upd I_0 5 (I_0 3)) 4 1) 6 r1) 3 ((I_0 3) + 1)) else (Option.bind (f_X8_isDigit_M N (upd I_0 5 (I_0 3)) A r1) (fun r10 => (if r10 = 0 then (if r1 = 59 then some (upd (upd (upd (upd I_0 5 (I_0 3)) 4 3) 6 r1) 3 ((I_0 3) + 1)) else some (upd (upd (upd (upd I_0 5 (I_0 3)) 4 4) 6 r1) 3 ((I_0 3) + 1))) else (f_X8_token_M_L141 N (fun (I_141 : (Nat → Int32)) => some I_141) r1 A N (upd (upd (upd (upd (upd I_0 5 (I_0 3)) 4 2) 6 r1) 3 ((I_0 3) + 1)) 6 (r1 - 48))))))))) else some (upd (upd (upd (upd I_0 5 (I_0 3)) 4 0) 6 r1) 3 ((I_0 3) + 0)))))) A N I)
set_option maxHeartbeats 4000000 in
set_option maxRecDepth 100000 in
theorem c_X8_token_M (l : Launch) (dC : Nat → ClassId) (dI : Nat → Nat → Nat) (a : Nat → Nat) (cy : Nat → ClassId) (N : Nat) (I : Nat → Int32) (A : Nat → Nat → Int32) (T : Int64)  (res : (Nat → Int32)) (h : f_X8_token_M N I A  = some res) (sz : Nat) : Met l yX8_token wsX8_token rm_X8_token_M (g_Pre (dC, dI) cy [.ref (a 0)] (wM a cy I A T) sz) (g_Qv (dC, dI) cy (wM a cy I A T) (wM a cy res A T) sz) 0 0 (va_A (wM a cy I A T) sz) := by
  unfold f_X8_token_M at h
  refine g_entry _ _ _ _ _ _ (cc := cX8_token) (maxL := 2) (ret := none) (by decide) rfl (Nat.le_of_ble_eq_true rfl) ?_
  intro p e s m args below meth c ls hx hb hml hown hts hr hlocks hA hK hP hD hS hl Q hQ
  have hl : lv_has ls 2 [(0, .ref (a 0))] := hl
  have hown : s.vm.findClass RX8 = some m.cls := hown
  have lp0 : ∀  (k_0 : (Nat → Int32) → Option ((Nat → Int32))), (∀ (I_0 : (Nat → Int32)), k_0 I_0 = some res → g_At (dC, dI) p l e (headSpec wsX8_token rm_X8_token_M).room s m args below meth c Q (wM a cy I A T) sz 2 (wM a cy I_0 A T) [(0, .ref (a 0))] 26 []) → ∀ (n_0 : Nat) (I_0 : (Nat → Int32)), f_X8_token_M_L0 N k_0 A n_0 I_0 = some res → g_At (dC, dI) p l e (headSpec wsX8_token rm_X8_token_M).room s m args below meth c Q (wM a cy I A T) sz 2 (wM a cy I_0 A T) [(0, .ref (a 0))] 0 [] := by
    intro  k_0 hk_0 n_0
    induction n_0 with
    | zero =>
      intro I_0 h
      exact absurd h (by rw [f_X8_token_M_L0]; exact fun q => by cases q)
    | succ n_0 ih0 =>
      intro I_0 h H locs hP hD hS ls hl
      rw [f_X8_token_M_L0] at h
      refine lv_aload_n hx hb dX8_token_0 rfl (lv_at hl 0 rfl) ?_
      refine lv_aload_n hx hb dX8_token_1 rfl (lv_at hl 0 rfl) ?_
      refine va_get (D := (dC, dI)) (ci := 8) (v := .int (I_0 3)) (C := RX8) (T := TX8) (N := 19) hx hb hts inX8_token_X8 hown hK hP 0 (eM_0 a cy I_0 A T) rfl 12 (by decide) (hts _ mX8_token_0) (fun _ h9 => h9) rfl dX8_token_2 ?_
      obtain ⟨r29, hr29, h⟩ := bnd_some h
      refine g_callVi (As := [.int (I_0 3)]) (rest := []) (ci := 8) (q0 := 0) hx hb hml hown hts (c_X8_letterAt_M l dC dI a cy N I_0 A T (I_0 3) r29 hr29) (cwV 1 hts gX8_token_X8_letterAt rfl rfl rfl (by decide +kernel) ⟨Nat.le_of_ble_eq_true rfl, Nat.le_of_ble_eq_true rfl⟩) hK hP hD hS hA rfl (eM_0 a cy I_0 A T) rfl rfl hl.1 rfl (Nat.le_of_ble_eq_true rfl) dX8_token_5 (fun H locs hP hD hS => ?_)
      refine lv_bipush (v := 32) hx hb dX8_token_8 (by decide) ?_
      refine lv_icmp_ne (tgt := 26) hx hb dX8_token_10 (by decide) (fun c30 => ?_) (fun c30 => ?_)
      · replace h := ite_f h c30
        exact hk_0 _ h _ _ hP hD hS _ (lv_sub hl [0] rfl)
      · replace h := ite_t h c30
        refine lv_aload_n hx hb dX8_token_13 rfl (lv_at hl 0 rfl) ?_
        refine lv_dup hx hb dX8_token_14 rfl ?_
        refine va_get (D := (dC, dI)) (ci := 8) (v := .int (I_0 3)) (C := RX8) (T := TX8) (N := 19) hx hb hts inX8_token_X8 hown hK hP 0 (eM_0 a cy I_0 A T) rfl 12 (by decide) (hts _ mX8_token_0) (fun _ h9 => h9) rfl dX8_token_15 ?_
        refine lv_iconst (v := 1) hx hb dX8_token_18 (by decide) ?_
        refine lv_iadd hx hb dX8_token_19 ?_
        refine g_put (D := (dC, dI)) (ci := 8) (v := .int ((I_0 3) + 1)) (ty := .int) (C := RX8) (T := TX8) (N := 19) hx hb hts inX8_token_X8 tyX8 tyX8_ok nmX8 hown hK hP hD hS 0 (eM_0 a cy I_0 A T) rfl 12 (by decide) (hts _ mX8_token_0) (fun _ h9 => h9) rfl (by decide +kernel) rfl rfl (Nat.le_of_ble_eq_true rfl) dX8_token_20 (pM_0_12 a cy I_0 A T ((I_0 3) + 1)) (fun H locs hP hD hS => ?_)
        refine lv_goto (tgt := 0) hx hb dX8_token_23 (by decide) ?_
        exact ih0 _ h _ _ hP hD hS _ (lv_sub hl [0] rfl)
  refine lp0  _ ?_ N _ h _ _ hP hD hS _ (lv_sub hl [0] rfl)
  intro I_0 h H locs hP hD hS ls hl
  refine lv_aload_n hx hb dX8_token_26 rfl (lv_at hl 0 rfl) ?_
  refine lv_aload_n hx hb dX8_token_27 rfl (lv_at hl 0 rfl) ?_
  refine va_get (D := (dC, dI)) (ci := 8) (v := .int (I_0 3)) (C := RX8) (T := TX8) (N := 19) hx hb hts inX8_token_X8 hown hK hP 0 (eM_0 a cy I_0 A T) rfl 12 (by decide) (hts _ mX8_token_0) (fun _ h9 => h9) rfl dX8_token_28 ?_
  refine g_put (D := (dC, dI)) (ci := 8) (v := .int (I_0 3)) (ty := .int) (C := RX8) (T := TX8) (N := 19) hx hb hts inX8_token_X8 tyX8 tyX8_ok nmX8 hown hK hP hD hS 0 (eM_0 a cy I_0 A T) rfl 14 (by decide) (hts _ mX8_token_1) (fun _ h9 => h9) rfl (by decide +kernel) rfl rfl (Nat.le_of_ble_eq_true rfl) dX8_token_31 (pM_0_14 a cy I_0 A T (I_0 3)) (fun H locs hP hD hS => ?_)
  refine lv_aload_n hx hb dX8_token_34 rfl (lv_at hl 0 rfl) ?_
  refine lv_aload_n hx hb dX8_token_35 rfl (lv_at hl 0 rfl) ?_
  refine va_get (D := (dC, dI)) (ci := 8) (v := .int (I_0 3)) (C := RX8) (T := TX8) (N := 19) hx hb hts inX8_token_X8 hown hK hP 0 (eM_0 a cy (upd I_0 5 (I_0 3)) A T) rfl 12 (by decide) (hts _ mX8_token_0) (fun _ h9 => h9) rfl dX8_token_36 ?_
  obtain ⟨r1, hr1, h⟩ := bnd_some h
  refine g_callVi (As := [.int (I_0 3)]) (rest := []) (ci := 8) (q0 := 0) hx hb hml hown hts (c_X8_letterAt_M l dC dI a cy N (upd I_0 5 (I_0 3)) A T (I_0 3) r1 hr1) (cwV 1 hts gX8_token_X8_letterAt rfl rfl rfl (by decide +kernel) ⟨Nat.le_of_ble_eq_true rfl, Nat.le_of_ble_eq_true rfl⟩) hK hP hD hS hA rfl (eM_0 a cy (upd I_0 5 (I_0 3)) A T) rfl rfl hl.1 rfl (Nat.le_of_ble_eq_true rfl) dX8_token_39 (fun H locs hP hD hS => ?_)
  refine lv_istore_n (lv' := [(1, .int r1), (0, .ref (a 0))]) hx hb dX8_token_42 rfl hl (by decide) rfl (fun ls hl => ?_)
  refine lv_aload_n hx hb dX8_token_43 rfl (lv_at hl 1 rfl) ?_
  refine lv_iload_n hx hb dX8_token_44 rfl (lv_at hl 0 rfl) ?_
  refine lv_if_ge (tgt := 52) hx hb dX8_token_45 (by decide) (fun c2 => ?_) (fun c2 => ?_)
  · replace h := ite_t h c2
    refine lv_iload_n hx hb dX8_token_52 rfl (lv_at hl 0 rfl) ?_
    refine lv_bipush (v := 98) hx hb dX8_token_53 (by decide) ?_
    refine lv_icmp_eq (tgt := 70) hx hb dX8_token_55 (by decide) (fun c3 => ?_) (fun c3 => ?_)
    · replace h := ite_t h c3
      refine lv_iconst (v := 1) hx hb dX8_token_70 (by decide) ?_
      refine lv_goto (tgt := 96) hx hb dX8_token_71 (by decide) ?_
      refine g_put (D := (dC, dI)) (ci := 8) (v := .int 1) (ty := .int) (C := RX8) (T := TX8) (N := 19) hx hb hts inX8_token_X8 tyX8 tyX8_ok nmX8 hown hK hP hD hS 0 (eM_0 a cy (upd I_0 5 (I_0 3)) A T) rfl 13 (by decide) (hts _ mX8_token_2) (fun _ h9 => h9) rfl (by decide +kernel) rfl rfl (Nat.le_of_ble_eq_true rfl) dX8_token_96 (pM_0_13 a cy (upd I_0 5 (I_0 3)) A T 1) (fun H locs hP hD hS => ?_)
      refine lv_aload_n hx hb dX8_token_99 rfl (lv_at hl 1 rfl) ?_
      refine lv_iload_n hx hb dX8_token_100 rfl (lv_at hl 0 rfl) ?_
      refine g_put (D := (dC, dI)) (ci := 8) (v := .int r1) (ty := .int) (C := RX8) (T := TX8) (N := 19) hx hb hts inX8_token_X8 tyX8 tyX8_ok nmX8 hown hK hP hD hS 0 (eM_0 a cy (upd (upd I_0 5 (I_0 3)) 4 1) A T) rfl 15 (by decide) (hts _ mX8_token_3) (fun _ h9 => h9) rfl (by decide +kernel) rfl rfl (Nat.le_of_ble_eq_true rfl) dX8_token_101 (pM_0_15 a cy (upd (upd I_0 5 (I_0 3)) 4 1) A T r1) (fun H locs hP hD hS => ?_)
      refine lv_aload_n hx hb dX8_token_104 rfl (lv_at hl 1 rfl) ?_
      refine lv_dup hx hb dX8_token_105 rfl ?_
      refine va_get (D := (dC, dI)) (ci := 8) (v := .int (I_0 3)) (C := RX8) (T := TX8) (N := 19) hx hb hts inX8_token_X8 hown hK hP 0 (eM_0 a cy (upd (upd (upd I_0 5 (I_0 3)) 4 1) 6 r1) A T) rfl 12 (by decide) (hts _ mX8_token_0) (fun _ h9 => h9) rfl dX8_token_106 ?_
      refine lv_aload_n hx hb dX8_token_109 rfl (lv_at hl 1 rfl) ?_
      refine va_get (D := (dC, dI)) (ci := 8) (v := .int 1) (C := RX8) (T := TX8) (N := 19) hx hb hts inX8_token_X8 hown hK hP 0 (eM_0 a cy (upd (upd (upd I_0 5 (I_0 3)) 4 1) 6 r1) A T) rfl 13 (by decide) (hts _ mX8_token_2) (fun _ h9 => h9) rfl dX8_token_110 ?_
      refine lv_if_ne (tgt := 120) hx hb dX8_token_113 (by decide) (fun _ => ?_) (fun c4 => absurd c4 (by decide))
      refine lv_iconst (v := 1) hx hb dX8_token_120 (by decide) ?_
      refine lv_iadd hx hb dX8_token_121 ?_
      refine g_put (D := (dC, dI)) (ci := 8) (v := .int ((I_0 3) + 1)) (ty := .int) (C := RX8) (T := TX8) (N := 19) hx hb hts inX8_token_X8 tyX8 tyX8_ok nmX8 hown hK hP hD hS 0 (eM_0 a cy (upd (upd (upd I_0 5 (I_0 3)) 4 1) 6 r1) A T) rfl 12 (by decide) (hts _ mX8_token_0) (fun _ h9 => h9) rfl (by decide +kernel) rfl rfl (Nat.le_of_ble_eq_true rfl) dX8_token_122 (pM_0_12 a cy (upd (upd (upd I_0 5 (I_0 3)) 4 1) 6 r1) A T ((I_0 3) + 1)) (fun H locs hP hD hS => ?_)
      refine lv_aload_n hx hb dX8_token_125 rfl (lv_at hl 1 rfl) ?_
      refine va_get (D := (dC, dI)) (ci := 8) (v := .int 1) (C := RX8) (T := TX8) (N := 19) hx hb hts inX8_token_X8 hown hK hP 0 (eM_0 a cy (upd (upd (upd (upd I_0 5 (I_0 3)) 4 1) 6 r1) 3 ((I_0 3) + 1)) A T) rfl 13 (by decide) (hts _ mX8_token_2) (fun _ h9 => h9) rfl dX8_token_126 ?_
      refine lv_iconst (v := 2) hx hb dX8_token_129 (by decide) ?_
      refine lv_icmp_ne (tgt := 213) hx hb dX8_token_130 (by decide) (fun _ => ?_) (fun c5 => absurd c5 (by decide))
      obtain rfl := Option.some.inj h
      exact g_vret hx hb hr hK hP hD hS hQ dX8_token_213
    · replace h := ite_f h c3
      refine lv_iload_n hx hb dX8_token_58 rfl (lv_at hl 0 rfl) ?_
      refine lv_bipush (v := 107) hx hb dX8_token_59 (by decide) ?_
      refine lv_icmp_eq (tgt := 70) hx hb dX8_token_61 (by decide) (fun c6 => ?_) (fun c6 => ?_)
      · replace h := ite_t h c6
        refine lv_iconst (v := 1) hx hb dX8_token_70 (by decide) ?_
        refine lv_goto (tgt := 96) hx hb dX8_token_71 (by decide) ?_
        refine g_put (D := (dC, dI)) (ci := 8) (v := .int 1) (ty := .int) (C := RX8) (T := TX8) (N := 19) hx hb hts inX8_token_X8 tyX8 tyX8_ok nmX8 hown hK hP hD hS 0 (eM_0 a cy (upd I_0 5 (I_0 3)) A T) rfl 13 (by decide) (hts _ mX8_token_2) (fun _ h9 => h9) rfl (by decide +kernel) rfl rfl (Nat.le_of_ble_eq_true rfl) dX8_token_96 (pM_0_13 a cy (upd I_0 5 (I_0 3)) A T 1) (fun H locs hP hD hS => ?_)
        refine lv_aload_n hx hb dX8_token_99 rfl (lv_at hl 1 rfl) ?_
        refine lv_iload_n hx hb dX8_token_100 rfl (lv_at hl 0 rfl) ?_
        refine g_put (D := (dC, dI)) (ci := 8) (v := .int r1) (ty := .int) (C := RX8) (T := TX8) (N := 19) hx hb hts inX8_token_X8 tyX8 tyX8_ok nmX8 hown hK hP hD hS 0 (eM_0 a cy (upd (upd I_0 5 (I_0 3)) 4 1) A T) rfl 15 (by decide) (hts _ mX8_token_3) (fun _ h9 => h9) rfl (by decide +kernel) rfl rfl (Nat.le_of_ble_eq_true rfl) dX8_token_101 (pM_0_15 a cy (upd (upd I_0 5 (I_0 3)) 4 1) A T r1) (fun H locs hP hD hS => ?_)
        refine lv_aload_n hx hb dX8_token_104 rfl (lv_at hl 1 rfl) ?_
        refine lv_dup hx hb dX8_token_105 rfl ?_
        refine va_get (D := (dC, dI)) (ci := 8) (v := .int (I_0 3)) (C := RX8) (T := TX8) (N := 19) hx hb hts inX8_token_X8 hown hK hP 0 (eM_0 a cy (upd (upd (upd I_0 5 (I_0 3)) 4 1) 6 r1) A T) rfl 12 (by decide) (hts _ mX8_token_0) (fun _ h9 => h9) rfl dX8_token_106 ?_
        refine lv_aload_n hx hb dX8_token_109 rfl (lv_at hl 1 rfl) ?_
        refine va_get (D := (dC, dI)) (ci := 8) (v := .int 1) (C := RX8) (T := TX8) (N := 19) hx hb hts inX8_token_X8 hown hK hP 0 (eM_0 a cy (upd (upd (upd I_0 5 (I_0 3)) 4 1) 6 r1) A T) rfl 13 (by decide) (hts _ mX8_token_2) (fun _ h9 => h9) rfl dX8_token_110 ?_
        refine lv_if_ne (tgt := 120) hx hb dX8_token_113 (by decide) (fun _ => ?_) (fun c7 => absurd c7 (by decide))
        refine lv_iconst (v := 1) hx hb dX8_token_120 (by decide) ?_
        refine lv_iadd hx hb dX8_token_121 ?_
        refine g_put (D := (dC, dI)) (ci := 8) (v := .int ((I_0 3) + 1)) (ty := .int) (C := RX8) (T := TX8) (N := 19) hx hb hts inX8_token_X8 tyX8 tyX8_ok nmX8 hown hK hP hD hS 0 (eM_0 a cy (upd (upd (upd I_0 5 (I_0 3)) 4 1) 6 r1) A T) rfl 12 (by decide) (hts _ mX8_token_0) (fun _ h9 => h9) rfl (by decide +kernel) rfl rfl (Nat.le_of_ble_eq_true rfl) dX8_token_122 (pM_0_12 a cy (upd (upd (upd I_0 5 (I_0 3)) 4 1) 6 r1) A T ((I_0 3) + 1)) (fun H locs hP hD hS => ?_)
        refine lv_aload_n hx hb dX8_token_125 rfl (lv_at hl 1 rfl) ?_
        refine va_get (D := (dC, dI)) (ci := 8) (v := .int 1) (C := RX8) (T := TX8) (N := 19) hx hb hts inX8_token_X8 hown hK hP 0 (eM_0 a cy (upd (upd (upd (upd I_0 5 (I_0 3)) 4 1) 6 r1) 3 ((I_0 3) + 1)) A T) rfl 13 (by decide) (hts _ mX8_token_2) (fun _ h9 => h9) rfl dX8_token_126 ?_
        refine lv_iconst (v := 2) hx hb dX8_token_129 (by decide) ?_
        refine lv_icmp_ne (tgt := 213) hx hb dX8_token_130 (by decide) (fun _ => ?_) (fun c8 => absurd c8 (by decide))
        obtain rfl := Option.some.inj h
        exact g_vret hx hb hr hK hP hD hS hQ dX8_token_213
      · replace h := ite_f h c6
        refine lv_iload_n hx hb dX8_token_64 rfl (lv_at hl 0 rfl) ?_
        refine lv_bipush (v := 112) hx hb dX8_token_65 (by decide) ?_
        refine lv_icmp_ne (tgt := 74) hx hb dX8_token_67 (by decide) (fun c9 => ?_) (fun c9 => ?_)
        · replace h := ite_f h c9
          refine lv_iload_n hx hb dX8_token_74 rfl (lv_at hl 0 rfl) ?_
          obtain ⟨r10, hr10, h⟩ := bnd_some h
          refine g_callSi (As := [.int r1]) (rest := [.ref (a 0)]) hx hb hml hown hts (c_X8_isDigit_M l dC dI a cy N (upd I_0 5 (I_0 3)) A T r1 r10 hr10) (va_cwS 1 hts gX8_token_X8_isDigit rfl rfl rfl (by decide +kernel) ⟨Nat.le_of_ble_eq_true rfl, Nat.le_of_ble_eq_true rfl⟩) hK hP hD hS hA rfl hl.1 rfl (Nat.le_of_ble_eq_true rfl) dX8_token_75 (fun H locs hP hD hS => ?_)
          refine lv_if_eq (tgt := 85) hx hb dX8_token_78 (by decide) (fun c11 => ?_) (fun c11 => ?_)
          · replace h := ite_t h c11
            refine lv_iload_n hx hb dX8_token_85 rfl (lv_at hl 0 rfl) ?_
            refine lv_bipush (v := 59) hx hb dX8_token_86 (by decide) ?_
            refine lv_icmp_ne (tgt := 95) hx hb dX8_token_88 (by decide) (fun c12 => ?_) (fun c12 => ?_)
            · replace h := ite_f h c12
              refine lv_iconst (v := 4) hx hb dX8_token_95 (by decide) ?_
              refine g_put (D := (dC, dI)) (ci := 8) (v := .int 4) (ty := .int) (C := RX8) (T := TX8) (N := 19) hx hb hts inX8_token_X8 tyX8 tyX8_ok nmX8 hown hK hP hD hS 0 (eM_0 a cy (upd I_0 5 (I_0 3)) A T) rfl 13 (by decide) (hts _ mX8_token_2) (fun _ h9 => h9) rfl (by decide +kernel) rfl rfl (Nat.le_of_ble_eq_true rfl) dX8_token_96 (pM_0_13 a cy (upd I_0 5 (I_0 3)) A T 4) (fun H locs hP hD hS => ?_)
              refine lv_aload_n hx hb dX8_token_99 rfl (lv_at hl 1 rfl) ?_
              refine lv_iload_n hx hb dX8_token_100 rfl (lv_at hl 0 rfl) ?_
              refine g_put (D := (dC, dI)) (ci := 8) (v := .int r1) (ty := .int) (C := RX8) (T := TX8) (N := 19) hx hb hts inX8_token_X8 tyX8 tyX8_ok nmX8 hown hK hP hD hS 0 (eM_0 a cy (upd (upd I_0 5 (I_0 3)) 4 4) A T) rfl 15 (by decide) (hts _ mX8_token_3) (fun _ h9 => h9) rfl (by decide +kernel) rfl rfl (Nat.le_of_ble_eq_true rfl) dX8_token_101 (pM_0_15 a cy (upd (upd I_0 5 (I_0 3)) 4 4) A T r1) (fun H locs hP hD hS => ?_)
              refine lv_aload_n hx hb dX8_token_104 rfl (lv_at hl 1 rfl) ?_
              refine lv_dup hx hb dX8_token_105 rfl ?_
              refine va_get (D := (dC, dI)) (ci := 8) (v := .int (I_0 3)) (C := RX8) (T := TX8) (N := 19) hx hb hts inX8_token_X8 hown hK hP 0 (eM_0 a cy (upd (upd (upd I_0 5 (I_0 3)) 4 4) 6 r1) A T) rfl 12 (by decide) (hts _ mX8_token_0) (fun _ h9 => h9) rfl dX8_token_106 ?_
              refine lv_aload_n hx hb dX8_token_109 rfl (lv_at hl 1 rfl) ?_
              refine va_get (D := (dC, dI)) (ci := 8) (v := .int 4) (C := RX8) (T := TX8) (N := 19) hx hb hts inX8_token_X8 hown hK hP 0 (eM_0 a cy (upd (upd (upd I_0 5 (I_0 3)) 4 4) 6 r1) A T) rfl 13 (by decide) (hts _ mX8_token_2) (fun _ h9 => h9) rfl dX8_token_110 ?_
              refine lv_if_ne (tgt := 120) hx hb dX8_token_113 (by decide) (fun _ => ?_) (fun c13 => absurd c13 (by decide))
              refine lv_iconst (v := 1) hx hb dX8_token_120 (by decide) ?_
              refine lv_iadd hx hb dX8_token_121 ?_
              refine g_put (D := (dC, dI)) (ci := 8) (v := .int ((I_0 3) + 1)) (ty := .int) (C := RX8) (T := TX8) (N := 19) hx hb hts inX8_token_X8 tyX8 tyX8_ok nmX8 hown hK hP hD hS 0 (eM_0 a cy (upd (upd (upd I_0 5 (I_0 3)) 4 4) 6 r1) A T) rfl 12 (by decide) (hts _ mX8_token_0) (fun _ h9 => h9) rfl (by decide +kernel) rfl rfl (Nat.le_of_ble_eq_true rfl) dX8_token_122 (pM_0_12 a cy (upd (upd (upd I_0 5 (I_0 3)) 4 4) 6 r1) A T ((I_0 3) + 1)) (fun H locs hP hD hS => ?_)
              refine lv_aload_n hx hb dX8_token_125 rfl (lv_at hl 1 rfl) ?_
              refine va_get (D := (dC, dI)) (ci := 8) (v := .int 4) (C := RX8) (T := TX8) (N := 19) hx hb hts inX8_token_X8 hown hK hP 0 (eM_0 a cy (upd (upd (upd (upd I_0 5 (I_0 3)) 4 4) 6 r1) 3 ((I_0 3) + 1)) A T) rfl 13 (by decide) (hts _ mX8_token_2) (fun _ h9 => h9) rfl dX8_token_126 ?_
              refine lv_iconst (v := 2) hx hb dX8_token_129 (by decide) ?_
              refine lv_icmp_ne (tgt := 213) hx hb dX8_token_130 (by decide) (fun _ => ?_) (fun c14 => absurd c14 (by decide))
              obtain rfl := Option.some.inj h
              exact g_vret hx hb hr hK hP hD hS hQ dX8_token_213
            · replace h := ite_t h c12
              refine lv_iconst (v := 3) hx hb dX8_token_91 (by decide) ?_
              refine lv_goto (tgt := 96) hx hb dX8_token_92 (by decide) ?_
              refine g_put (D := (dC, dI)) (ci := 8) (v := .int 3) (ty := .int) (C := RX8) (T := TX8) (N := 19) hx hb hts inX8_token_X8 tyX8 tyX8_ok nmX8 hown hK hP hD hS 0 (eM_0 a cy (upd I_0 5 (I_0 3)) A T) rfl 13 (by decide) (hts _ mX8_token_2) (fun _ h9 => h9) rfl (by decide +kernel) rfl rfl (Nat.le_of_ble_eq_true rfl) dX8_token_96 (pM_0_13 a cy (upd I_0 5 (I_0 3)) A T 3) (fun H locs hP hD hS => ?_)
              refine lv_aload_n hx hb dX8_token_99 rfl (lv_at hl 1 rfl) ?_
              refine lv_iload_n hx hb dX8_token_100 rfl (lv_at hl 0 rfl) ?_
              refine g_put (D := (dC, dI)) (ci := 8) (v := .int r1) (ty := .int) (C := RX8) (T := TX8) (N := 19) hx hb hts inX8_token_X8 tyX8 tyX8_ok nmX8 hown hK hP hD hS 0 (eM_0 a cy (upd (upd I_0 5 (I_0 3)) 4 3) A T) rfl 15 (by decide) (hts _ mX8_token_3) (fun _ h9 => h9) rfl (by decide +kernel) rfl rfl (Nat.le_of_ble_eq_true rfl) dX8_token_101 (pM_0_15 a cy (upd (upd I_0 5 (I_0 3)) 4 3) A T r1) (fun H locs hP hD hS => ?_)
              refine lv_aload_n hx hb dX8_token_104 rfl (lv_at hl 1 rfl) ?_
              refine lv_dup hx hb dX8_token_105 rfl ?_
              refine va_get (D := (dC, dI)) (ci := 8) (v := .int (I_0 3)) (C := RX8) (T := TX8) (N := 19) hx hb hts inX8_token_X8 hown hK hP 0 (eM_0 a cy (upd (upd (upd I_0 5 (I_0 3)) 4 3) 6 r1) A T) rfl 12 (by decide) (hts _ mX8_token_0) (fun _ h9 => h9) rfl dX8_token_106 ?_
              refine lv_aload_n hx hb dX8_token_109 rfl (lv_at hl 1 rfl) ?_
              refine va_get (D := (dC, dI)) (ci := 8) (v := .int 3) (C := RX8) (T := TX8) (N := 19) hx hb hts inX8_token_X8 hown hK hP 0 (eM_0 a cy (upd (upd (upd I_0 5 (I_0 3)) 4 3) 6 r1) A T) rfl 13 (by decide) (hts _ mX8_token_2) (fun _ h9 => h9) rfl dX8_token_110 ?_
              refine lv_if_ne (tgt := 120) hx hb dX8_token_113 (by decide) (fun _ => ?_) (fun c15 => absurd c15 (by decide))
              refine lv_iconst (v := 1) hx hb dX8_token_120 (by decide) ?_
              refine lv_iadd hx hb dX8_token_121 ?_
              refine g_put (D := (dC, dI)) (ci := 8) (v := .int ((I_0 3) + 1)) (ty := .int) (C := RX8) (T := TX8) (N := 19) hx hb hts inX8_token_X8 tyX8 tyX8_ok nmX8 hown hK hP hD hS 0 (eM_0 a cy (upd (upd (upd I_0 5 (I_0 3)) 4 3) 6 r1) A T) rfl 12 (by decide) (hts _ mX8_token_0) (fun _ h9 => h9) rfl (by decide +kernel) rfl rfl (Nat.le_of_ble_eq_true rfl) dX8_token_122 (pM_0_12 a cy (upd (upd (upd I_0 5 (I_0 3)) 4 3) 6 r1) A T ((I_0 3) + 1)) (fun H locs hP hD hS => ?_)
              refine lv_aload_n hx hb dX8_token_125 rfl (lv_at hl 1 rfl) ?_
              refine va_get (D := (dC, dI)) (ci := 8) (v := .int 3) (C := RX8) (T := TX8) (N := 19) hx hb hts inX8_token_X8 hown hK hP 0 (eM_0 a cy (upd (upd (upd (upd I_0 5 (I_0 3)) 4 3) 6 r1) 3 ((I_0 3) + 1)) A T) rfl 13 (by decide) (hts _ mX8_token_2) (fun _ h9 => h9) rfl dX8_token_126 ?_
              refine lv_iconst (v := 2) hx hb dX8_token_129 (by decide) ?_
              refine lv_icmp_ne (tgt := 213) hx hb dX8_token_130 (by decide) (fun _ => ?_) (fun c16 => absurd c16 (by decide))
              obtain rfl := Option.some.inj h
              exact g_vret hx hb hr hK hP hD hS hQ dX8_token_213
          · replace h := ite_f h c11
            refine lv_iconst (v := 2) hx hb dX8_token_81 (by decide) ?_
            refine lv_goto (tgt := 96) hx hb dX8_token_82 (by decide) ?_
            refine g_put (D := (dC, dI)) (ci := 8) (v := .int 2) (ty := .int) (C := RX8) (T := TX8) (N := 19) hx hb hts inX8_token_X8 tyX8 tyX8_ok nmX8 hown hK hP hD hS 0 (eM_0 a cy (upd I_0 5 (I_0 3)) A T) rfl 13 (by decide) (hts _ mX8_token_2) (fun _ h9 => h9) rfl (by decide +kernel) rfl rfl (Nat.le_of_ble_eq_true rfl) dX8_token_96 (pM_0_13 a cy (upd I_0 5 (I_0 3)) A T 2) (fun H locs hP hD hS => ?_)
            refine lv_aload_n hx hb dX8_token_99 rfl (lv_at hl 1 rfl) ?_
            refine lv_iload_n hx hb dX8_token_100 rfl (lv_at hl 0 rfl) ?_
            refine g_put (D := (dC, dI)) (ci := 8) (v := .int r1) (ty := .int) (C := RX8) (T := TX8) (N := 19) hx hb hts inX8_token_X8 tyX8 tyX8_ok nmX8 hown hK hP hD hS 0 (eM_0 a cy (upd (upd I_0 5 (I_0 3)) 4 2) A T) rfl 15 (by decide) (hts _ mX8_token_3) (fun _ h9 => h9) rfl (by decide +kernel) rfl rfl (Nat.le_of_ble_eq_true rfl) dX8_token_101 (pM_0_15 a cy (upd (upd I_0 5 (I_0 3)) 4 2) A T r1) (fun H locs hP hD hS => ?_)
            refine lv_aload_n hx hb dX8_token_104 rfl (lv_at hl 1 rfl) ?_
            refine lv_dup hx hb dX8_token_105 rfl ?_
            refine va_get (D := (dC, dI)) (ci := 8) (v := .int (I_0 3)) (C := RX8) (T := TX8) (N := 19) hx hb hts inX8_token_X8 hown hK hP 0 (eM_0 a cy (upd (upd (upd I_0 5 (I_0 3)) 4 2) 6 r1) A T) rfl 12 (by decide) (hts _ mX8_token_0) (fun _ h9 => h9) rfl dX8_token_106 ?_
            refine lv_aload_n hx hb dX8_token_109 rfl (lv_at hl 1 rfl) ?_
            refine va_get (D := (dC, dI)) (ci := 8) (v := .int 2) (C := RX8) (T := TX8) (N := 19) hx hb hts inX8_token_X8 hown hK hP 0 (eM_0 a cy (upd (upd (upd I_0 5 (I_0 3)) 4 2) 6 r1) A T) rfl 13 (by decide) (hts _ mX8_token_2) (fun _ h9 => h9) rfl dX8_token_110 ?_
            refine lv_if_ne (tgt := 120) hx hb dX8_token_113 (by decide) (fun _ => ?_) (fun c17 => absurd c17 (by decide))
            refine lv_iconst (v := 1) hx hb dX8_token_120 (by decide) ?_
            refine lv_iadd hx hb dX8_token_121 ?_
            refine g_put (D := (dC, dI)) (ci := 8) (v := .int ((I_0 3) + 1)) (ty := .int) (C := RX8) (T := TX8) (N := 19) hx hb hts inX8_token_X8 tyX8 tyX8_ok nmX8 hown hK hP hD hS 0 (eM_0 a cy (upd (upd (upd I_0 5 (I_0 3)) 4 2) 6 r1) A T) rfl 12 (by decide) (hts _ mX8_token_0) (fun _ h9 => h9) rfl (by decide +kernel) rfl rfl (Nat.le_of_ble_eq_true rfl) dX8_token_122 (pM_0_12 a cy (upd (upd (upd I_0 5 (I_0 3)) 4 2) 6 r1) A T ((I_0 3) + 1)) (fun H locs hP hD hS => ?_)
            refine lv_aload_n hx hb dX8_token_125 rfl (lv_at hl 1 rfl) ?_
            refine va_get (D := (dC, dI)) (ci := 8) (v := .int 2) (C := RX8) (T := TX8) (N := 19) hx hb hts inX8_token_X8 hown hK hP 0 (eM_0 a cy (upd (upd (upd (upd I_0 5 (I_0 3)) 4 2) 6 r1) 3 ((I_0 3) + 1)) A T) rfl 13 (by decide) (hts _ mX8_token_2) (fun _ h9 => h9) rfl dX8_token_126 ?_
            refine lv_iconst (v := 2) hx hb dX8_token_129 (by decide) ?_
            refine lv_icmp_ne (tgt := 213) hx hb dX8_token_130 (by decide) (fun c18 => absurd (by decide) c18) (fun _ => ?_)
            refine lv_aload_n hx hb dX8_token_133 rfl (lv_at hl 1 rfl) ?_
            refine lv_iload_n hx hb dX8_token_134 rfl (lv_at hl 0 rfl) ?_
            refine lv_bipush (v := 48) hx hb dX8_token_135 (by decide) ?_
            refine lv_isub hx hb dX8_token_137 ?_
            refine g_put (D := (dC, dI)) (ci := 8) (v := .int (r1 - 48)) (ty := .int) (C := RX8) (T := TX8) (N := 19) hx hb hts inX8_token_X8 tyX8 tyX8_ok nmX8 hown hK hP hD hS 0 (eM_0 a cy (upd (upd (upd (upd I_0 5 (I_0 3)) 4 2) 6 r1) 3 ((I_0 3) + 1)) A T) rfl 15 (by decide) (hts _ mX8_token_3) (fun _ h9 => h9) rfl (by decide +kernel) rfl rfl (Nat.le_of_ble_eq_true rfl) dX8_token_138 (pM_0_15 a cy (upd (upd (upd (upd I_0 5 (I_0 3)) 4 2) 6 r1) 3 ((I_0 3) + 1)) A T (r1 - 48)) (fun H locs hP hD hS => ?_)
            have lp141 : ∀ (x1 : Int32) (k_141 : (Nat → Int32) → Option ((Nat → Int32))), (∀ (I_141 : (Nat → Int32)), k_141 I_141 = some res → g_At (dC, dI) p l e (headSpec wsX8_token rm_X8_token_M).room s m args below meth c Q (wM a cy I A T) sz 2 (wM a cy I_141 A T) [] 213 []) → ∀ (n_141 : Nat) (I_141 : (Nat → Int32)), f_X8_token_M_L141 N k_141 x1 A n_141 I_141 = some res → g_At (dC, dI) p l e (headSpec wsX8_token rm_X8_token_M).room s m args below meth c Q (wM a cy I A T) sz 2 (wM a cy I_141 A T) [(0, .ref (a 0)), (1, .int x1)] 141 [] := by
              intro x1 k_141 hk_141 n_141
              induction n_141 with
              | zero =>
                intro I_141 h
                exact absurd h (by rw [f_X8_token_M_L141]; exact fun q => by cases q)
              | succ n_141 ih141 =>
                intro I_141 h H locs hP hD hS ls hl
                rw [f_X8_token_M_L141] at h
                refine lv_aload_n hx hb dX8_token_141 rfl (lv_at hl 0 rfl) ?_
                refine lv_aload_n hx hb dX8_token_142 rfl (lv_at hl 0 rfl) ?_
                refine va_get (D := (dC, dI)) (ci := 8) (v := .int (I_141 3)) (C := RX8) (T := TX8) (N := 19) hx hb hts inX8_token_X8 hown hK hP 0 (eM_0 a cy I_141 A T) rfl 12 (by decide) (hts _ mX8_token_0) (fun _ h9 => h9) rfl dX8_token_143 ?_
                obtain ⟨r19, hr19, h⟩ := bnd_some h
                refine g_callVi (As := [.int (I_141 3)]) (rest := []) (ci := 8) (q0 := 0) hx hb hml hown hts (c_X8_letterAt_M l dC dI a cy N I_141 A T (I_141 3) r19 hr19) (cwV 1 hts gX8_token_X8_letterAt rfl rfl rfl (by decide +kernel) ⟨Nat.le_of_ble_eq_true rfl, Nat.le_of_ble_eq_true rfl⟩) hK hP hD hS hA rfl (eM_0 a cy I_141 A T) rfl rfl hl.1 rfl (Nat.le_of_ble_eq_true rfl) dX8_token_146 (fun H locs hP hD hS => ?_)
                obtain ⟨r20, hr20, h⟩ := bnd_some h
                refine g_callSi (As := [.int r19]) (rest := []) hx hb hml hown hts (c_X8_isDigit_M l dC dI a cy N I_141 A T r19 r20 hr20) (va_cwS 1 hts gX8_token_X8_isDigit rfl rfl rfl (by decide +kernel) ⟨Nat.le_of_ble_eq_true rfl, Nat.le_of_ble_eq_true rfl⟩) hK hP hD hS hA rfl hl.1 rfl (Nat.le_of_ble_eq_true rfl) dX8_token_149 (fun H locs hP hD hS => ?_)
                refine lv_if_eq (tgt := 213) hx hb dX8_token_152 (by decide) (fun c21 => ?_) (fun c21 => ?_)
                · replace h := ite_t h c21
                  exact hk_141 _ h _ _ hP hD hS _ (lv_sub hl [] rfl)
                · replace h := ite_f h c21
                  refine lv_aload_n hx hb dX8_token_155 rfl (lv_at hl 0 rfl) ?_
                  refine lv_iload_n hx hb dX8_token_156 rfl (lv_at hl 1 rfl) ?_
                  refine lv_bipush (v := 48) hx hb dX8_token_157 (by decide) ?_
                  refine lv_icmp_eq (tgt := 171) hx hb dX8_token_159 (by decide) (fun c22 => ?_) (fun c22 => ?_)
                  · replace h := ite_t h c22
                    refine lv_sipush (v := 1000) hx hb dX8_token_171 (by decide) ?_
                    refine lv_goto (tgt := 197) hx hb dX8_token_174 (by decide) ?_
                    refine g_put (D := (dC, dI)) (ci := 8) (v := .int 1000) (ty := .int) (C := RX8) (T := TX8) (N := 19) hx hb hts inX8_token_X8 tyX8 tyX8_ok nmX8 hown hK hP hD hS 0 (eM_0 a cy I_141 A T) rfl 15 (by decide) (hts _ mX8_token_3) (fun _ h9 => h9) rfl (by decide +kernel) rfl rfl (Nat.le_of_ble_eq_true rfl) dX8_token_197 (pM_0_15 a cy I_141 A T 1000) (fun H locs hP hD hS => ?_)
                    refine lv_aload_n hx hb dX8_token_200 rfl (lv_at hl 0 rfl) ?_
                    refine lv_dup hx hb dX8_token_201 rfl ?_
                    refine va_get (D := (dC, dI)) (ci := 8) (v := .int (I_141 3)) (C := RX8) (T := TX8) (N := 19) hx hb hts inX8_token_X8 hown hK hP 0 (eM_0 a cy (upd I_141 6 1000) A T) rfl 12 (by decide) (hts _ mX8_token_0) (fun _ h9 => h9) rfl dX8_token_202 ?_
                    refine lv_iconst (v := 1) hx hb dX8_token_205 (by decide) ?_
                    refine lv_iadd hx hb dX8_token_206 ?_
                    refine g_put (D := (dC, dI)) (ci := 8) (v := .int ((I_141 3) + 1)) (ty := .int) (C := RX8) (T := TX8) (N := 19) hx hb hts inX8_token_X8 tyX8 tyX8_ok nmX8 hown hK hP hD hS 0 (eM_0 a cy (upd I_141 6 1000) A T) rfl 12 (by decide) (hts _ mX8_token_0) (fun _ h9 => h9) rfl (by decide +kernel) rfl rfl (Nat.le_of_ble_eq_true rfl) dX8_token_207 (pM_0_12 a cy (upd I_141 6 1000) A T ((I_141 3) + 1)) (fun H locs hP hD hS => ?_)
                    refine lv_goto (tgt := 141) hx hb dX8_token_210 (by decide) ?_
                    exact ih141 _ h _ _ hP hD hS _ (lv_sub hl [0, 1] rfl)
                  · replace h := ite_f h c22
                    refine lv_aload_n hx hb dX8_token_162 rfl (lv_at hl 0 rfl) ?_
                    refine va_get (D := (dC, dI)) (ci := 8) (v := .int (I_141 6)) (C := RX8) (T := TX8) (N := 19) hx hb hts inX8_token_X8 hown hK hP 0 (eM_0 a cy I_141 A T) rfl 15 (by decide) (hts _ mX8_token_3) (fun _ h9 => h9) rfl dX8_token_163 ?_
                    refine lv_bipush (v := 99) hx hb dX8_token_166 (by decide) ?_
                    refine lv_icmp_le (tgt := 177) hx hb dX8_token_168 (by decide) (fun c23 => ?_) (fun c23 => ?_)
                    · replace h := ite_t h c23
                      refine lv_bipush (v := 10) hx hb dX8_token_177 (by decide) ?_
                      refine lv_aload_n hx hb dX8_token_179 rfl (lv_at hl 0 rfl) ?_
                      refine va_get (D := (dC, dI)) (ci := 8) (v := .int (I_141 6)) (C := RX8) (T := TX8) (N := 19) hx hb hts inX8_token_X8 hown hK hP 0 (eM_0 a cy I_141 A T) rfl 15 (by decide) (hts _ mX8_token_3) (fun _ h9 => h9) rfl dX8_token_180 ?_
                      refine lv_imul hx hb dX8_token_183 ?_
                      refine lv_aload_n hx hb dX8_token_184 rfl (lv_at hl 0 rfl) ?_
                      refine va_get (D := (dC, dI)) (ci := 8) (v := .ref (a 1)) (C := RX8) (T := TX8) (N := 19) hx hb hts inX8_token_X8 hown hK hP 0 (eM_0 a cy I_141 A T) rfl 1 (by decide) (hts _ mX8_token_4) (fun _ h9 => h9) rfl dX8_token_185 ?_
                      refine lv_aload_n hx hb dX8_token_188 rfl (lv_at hl 0 rfl) ?_
                      refine va_get (D := (dC, dI)) (ci := 8) (v := .int (I_141 3)) (C := RX8) (T := TX8) (N := 19) hx hb hts inX8_token_X8 hown hK hP 0 (eM_0 a cy I_141 A T) rfl 12 (by decide) (hts _ mX8_token_0) (fun _ h9 => h9) rfl dX8_token_189 ?_
                      obtain ⟨i24, h⟩ := inb_some h
                      refine g_iald (f := (A 0)) (j := ((I_141 3)).toNatClampNeg) hx hb hK hP 1 (eM_1 a cy I_141 A T) i24 rfl dX8_token_192 ?_
                      refine lv_iadd hx hb dX8_token_193 ?_
                      refine lv_bipush (v := 48) hx hb dX8_token_194 (by decide) ?_
                      refine lv_isub hx hb dX8_token_196 ?_
                      refine g_put (D := (dC, dI)) (ci := 8) (v := .int (((10 * (I_141 6)) + ((A 0) ((I_141 3)).toNatClampNeg)) - 48)) (ty := .int) (C := RX8) (T := TX8) (N := 19) hx hb hts inX8_token_X8 tyX8 tyX8_ok nmX8 hown hK hP hD hS 0 (eM_0 a cy I_141 A T) rfl 15 (by decide) (hts _ mX8_token_3) (fun _ h9 => h9) rfl (by decide +kernel) rfl rfl (Nat.le_of_ble_eq_true rfl) dX8_token_197 (pM_0_15 a cy I_141 A T (((10 * (I_141 6)) + ((A 0) ((I_141 3)).toNatClampNeg)) - 48)) (fun H locs hP hD hS => ?_)
                      refine lv_aload_n hx hb dX8_token_200 rfl (lv_at hl 0 rfl) ?_
                      refine lv_dup hx hb dX8_token_201 rfl ?_
                      refine va_get (D := (dC, dI)) (ci := 8) (v := .int (I_141 3)) (C := RX8) (T := TX8) (N := 19) hx hb hts inX8_token_X8 hown hK hP 0 (eM_0 a cy (upd I_141 6 (((10 * (I_141 6)) + ((A 0) ((I_141 3)).toNatClampNeg)) - 48)) A T) rfl 12 (by decide) (hts _ mX8_token_0) (fun _ h9 => h9) rfl dX8_token_202 ?_
                      refine lv_iconst (v := 1) hx hb dX8_token_205 (by decide) ?_
                      refine lv_iadd hx hb dX8_token_206 ?_
                      refine g_put (D := (dC, dI)) (ci := 8) (v := .int ((I_141 3) + 1)) (ty := .int) (C := RX8) (T := TX8) (N := 19) hx hb hts inX8_token_X8 tyX8 tyX8_ok nmX8 hown hK hP hD hS 0 (eM_0 a cy (upd I_141 6 (((10 * (I_141 6)) + ((A 0) ((I_141 3)).toNatClampNeg)) - 48)) A T) rfl 12 (by decide) (hts _ mX8_token_0) (fun _ h9 => h9) rfl (by decide +kernel) rfl rfl (Nat.le_of_ble_eq_true rfl) dX8_token_207 (pM_0_12 a cy (upd I_141 6 (((10 * (I_141 6)) + ((A 0) ((I_141 3)).toNatClampNeg)) - 48)) A T ((I_141 3) + 1)) (fun H locs hP hD hS => ?_)
                      refine lv_goto (tgt := 141) hx hb dX8_token_210 (by decide) ?_
                      exact ih141 _ h _ _ hP hD hS _ (lv_sub hl [0, 1] rfl)
                    · replace h := ite_f h c23
                      refine lv_sipush (v := 1000) hx hb dX8_token_171 (by decide) ?_
                      refine lv_goto (tgt := 197) hx hb dX8_token_174 (by decide) ?_
                      refine g_put (D := (dC, dI)) (ci := 8) (v := .int 1000) (ty := .int) (C := RX8) (T := TX8) (N := 19) hx hb hts inX8_token_X8 tyX8 tyX8_ok nmX8 hown hK hP hD hS 0 (eM_0 a cy I_141 A T) rfl 15 (by decide) (hts _ mX8_token_3) (fun _ h9 => h9) rfl (by decide +kernel) rfl rfl (Nat.le_of_ble_eq_true rfl) dX8_token_197 (pM_0_15 a cy I_141 A T 1000) (fun H locs hP hD hS => ?_)
                      refine lv_aload_n hx hb dX8_token_200 rfl (lv_at hl 0 rfl) ?_
                      refine lv_dup hx hb dX8_token_201 rfl ?_
                      refine va_get (D := (dC, dI)) (ci := 8) (v := .int (I_141 3)) (C := RX8) (T := TX8) (N := 19) hx hb hts inX8_token_X8 hown hK hP 0 (eM_0 a cy (upd I_141 6 1000) A T) rfl 12 (by decide) (hts _ mX8_token_0) (fun _ h9 => h9) rfl dX8_token_202 ?_
                      refine lv_iconst (v := 1) hx hb dX8_token_205 (by decide) ?_
                      refine lv_iadd hx hb dX8_token_206 ?_
                      refine g_put (D := (dC, dI)) (ci := 8) (v := .int ((I_141 3) + 1)) (ty := .int) (C := RX8) (T := TX8) (N := 19) hx hb hts inX8_token_X8 tyX8 tyX8_ok nmX8 hown hK hP hD hS 0 (eM_0 a cy (upd I_141 6 1000) A T) rfl 12 (by decide) (hts _ mX8_token_0) (fun _ h9 => h9) rfl (by decide +kernel) rfl rfl (Nat.le_of_ble_eq_true rfl) dX8_token_207 (pM_0_12 a cy (upd I_141 6 1000) A T ((I_141 3) + 1)) (fun H locs hP hD hS => ?_)
                      refine lv_goto (tgt := 141) hx hb dX8_token_210 (by decide) ?_
                      exact ih141 _ h _ _ hP hD hS _ (lv_sub hl [0, 1] rfl)
            refine lp141 _ _ ?_ N _ h _ _ hP hD hS _ (lv_sub hl [1, 0] rfl)
            intro I_141 h H locs hP hD hS ls hl
            obtain rfl := Option.some.inj h
            exact g_vret hx hb hr hK hP hD hS hQ dX8_token_213
        · replace h := ite_t h c9
          refine lv_iconst (v := 1) hx hb dX8_token_70 (by decide) ?_
          refine lv_goto (tgt := 96) hx hb dX8_token_71 (by decide) ?_
          refine g_put (D := (dC, dI)) (ci := 8) (v := .int 1) (ty := .int) (C := RX8) (T := TX8) (N := 19) hx hb hts inX8_token_X8 tyX8 tyX8_ok nmX8 hown hK hP hD hS 0 (eM_0 a cy (upd I_0 5 (I_0 3)) A T) rfl 13 (by decide) (hts _ mX8_token_2) (fun _ h9 => h9) rfl (by decide +kernel) rfl rfl (Nat.le_of_ble_eq_true rfl) dX8_token_96 (pM_0_13 a cy (upd I_0 5 (I_0 3)) A T 1) (fun H locs hP hD hS => ?_)
          refine lv_aload_n hx hb dX8_token_99 rfl (lv_at hl 1 rfl) ?_
          refine lv_iload_n hx hb dX8_token_100 rfl (lv_at hl 0 rfl) ?_
          refine g_put (D := (dC, dI)) (ci := 8) (v := .int r1) (ty := .int) (C := RX8) (T := TX8) (N := 19) hx hb hts inX8_token_X8 tyX8 tyX8_ok nmX8 hown hK hP hD hS 0 (eM_0 a cy (upd (upd I_0 5 (I_0 3)) 4 1) A T) rfl 15 (by decide) (hts _ mX8_token_3) (fun _ h9 => h9) rfl (by decide +kernel) rfl rfl (Nat.le_of_ble_eq_true rfl) dX8_token_101 (pM_0_15 a cy (upd (upd I_0 5 (I_0 3)) 4 1) A T r1) (fun H locs hP hD hS => ?_)
          refine lv_aload_n hx hb dX8_token_104 rfl (lv_at hl 1 rfl) ?_
          refine lv_dup hx hb dX8_token_105 rfl ?_
          refine va_get (D := (dC, dI)) (ci := 8) (v := .int (I_0 3)) (C := RX8) (T := TX8) (N := 19) hx hb hts inX8_token_X8 hown hK hP 0 (eM_0 a cy (upd (upd (upd I_0 5 (I_0 3)) 4 1) 6 r1) A T) rfl 12 (by decide) (hts _ mX8_token_0) (fun _ h9 => h9) rfl dX8_token_106 ?_
          refine lv_aload_n hx hb dX8_token_109 rfl (lv_at hl 1 rfl) ?_
          refine va_get (D := (dC, dI)) (ci := 8) (v := .int 1) (C := RX8) (T := TX8) (N := 19) hx hb hts inX8_token_X8 hown hK hP 0 (eM_0 a cy (upd (upd (upd I_0 5 (I_0 3)) 4 1) 6 r1) A T) rfl 13 (by decide) (hts _ mX8_token_2) (fun _ h9 => h9) rfl dX8_token_110 ?_
          refine lv_if_ne (tgt := 120) hx hb dX8_token_113 (by decide) (fun _ => ?_) (fun c25 => absurd c25 (by decide))
          refine lv_iconst (v := 1) hx hb dX8_token_120 (by decide) ?_
          refine lv_iadd hx hb dX8_token_121 ?_
          refine g_put (D := (dC, dI)) (ci := 8) (v := .int ((I_0 3) + 1)) (ty := .int) (C := RX8) (T := TX8) (N := 19) hx hb hts inX8_token_X8 tyX8 tyX8_ok nmX8 hown hK hP hD hS 0 (eM_0 a cy (upd (upd (upd I_0 5 (I_0 3)) 4 1) 6 r1) A T) rfl 12 (by decide) (hts _ mX8_token_0) (fun _ h9 => h9) rfl (by decide +kernel) rfl rfl (Nat.le_of_ble_eq_true rfl) dX8_token_122 (pM_0_12 a cy (upd (upd (upd I_0 5 (I_0 3)) 4 1) 6 r1) A T ((I_0 3) + 1)) (fun H locs hP hD hS => ?_)
          refine lv_aload_n hx hb dX8_token_125 rfl (lv_at hl 1 rfl) ?_
          refine va_get (D := (dC, dI)) (ci := 8) (v := .int 1) (C := RX8) (T := TX8) (N := 19) hx hb hts inX8_token_X8 hown hK hP 0 (eM_0 a cy (upd (upd (upd (upd I_0 5 (I_0 3)) 4 1) 6 r1) 3 ((I_0 3) + 1)) A T) rfl 13 (by decide) (hts _ mX8_token_2) (fun _ h9 => h9) rfl dX8_token_126 ?_
          refine lv_iconst (v := 2) hx hb dX8_token_129 (by decide) ?_
          refine lv_icmp_ne (tgt := 213) hx hb dX8_token_130 (by decide) (fun _ => ?_) (fun c26 => absurd c26 (by decide))
          obtain rfl := Option.some.inj h
          exact g_vret hx hb hr hK hP hD hS hQ dX8_token_213
  · replace h := ite_f h c2
    refine lv_iconst (v := 0) hx hb dX8_token_48 (by decide) ?_
    refine lv_goto (tgt := 96) hx hb dX8_token_49 (by decide) ?_
    refine g_put (D := (dC, dI)) (ci := 8) (v := .int 0) (ty := .int) (C := RX8) (T := TX8) (N := 19) hx hb hts inX8_token_X8 tyX8 tyX8_ok nmX8 hown hK hP hD hS 0 (eM_0 a cy (upd I_0 5 (I_0 3)) A T) rfl 13 (by decide) (hts _ mX8_token_2) (fun _ h9 => h9) rfl (by decide +kernel) rfl rfl (Nat.le_of_ble_eq_true rfl) dX8_token_96 (pM_0_13 a cy (upd I_0 5 (I_0 3)) A T 0) (fun H locs hP hD hS => ?_)
    refine lv_aload_n hx hb dX8_token_99 rfl (lv_at hl 1 rfl) ?_
    refine lv_iload_n hx hb dX8_token_100 rfl (lv_at hl 0 rfl) ?_
    refine g_put (D := (dC, dI)) (ci := 8) (v := .int r1) (ty := .int) (C := RX8) (T := TX8) (N := 19) hx hb hts inX8_token_X8 tyX8 tyX8_ok nmX8 hown hK hP hD hS 0 (eM_0 a cy (upd (upd I_0 5 (I_0 3)) 4 0) A T) rfl 15 (by decide) (hts _ mX8_token_3) (fun _ h9 => h9) rfl (by decide +kernel) rfl rfl (Nat.le_of_ble_eq_true rfl) dX8_token_101 (pM_0_15 a cy (upd (upd I_0 5 (I_0 3)) 4 0) A T r1) (fun H locs hP hD hS => ?_)
    refine lv_aload_n hx hb dX8_token_104 rfl (lv_at hl 1 rfl) ?_
    refine lv_dup hx hb dX8_token_105 rfl ?_
    refine va_get (D := (dC, dI)) (ci := 8) (v := .int (I_0 3)) (C := RX8) (T := TX8) (N := 19) hx hb hts inX8_token_X8 hown hK hP 0 (eM_0 a cy (upd (upd (upd I_0 5 (I_0 3)) 4 0) 6 r1) A T) rfl 12 (by decide) (hts _ mX8_token_0) (fun _ h9 => h9) rfl dX8_token_106 ?_
    refine lv_aload_n hx hb dX8_token_109 rfl (lv_at hl 1 rfl) ?_
    refine va_get (D := (dC, dI)) (ci := 8) (v := .int 0) (C := RX8) (T := TX8) (N := 19) hx hb hts inX8_token_X8 hown hK hP 0 (eM_0 a cy (upd (upd (upd I_0 5 (I_0 3)) 4 0) 6 r1) A T) rfl 13 (by decide) (hts _ mX8_token_2) (fun _ h9 => h9) rfl dX8_token_110 ?_
    refine lv_if_ne (tgt := 120) hx hb dX8_token_113 (by decide) (fun c27 => absurd (by decide) c27) (fun _ => ?_)
    refine lv_iconst (v := 0) hx hb dX8_token_116 (by decide) ?_
    refine lv_goto (tgt := 121) hx hb dX8_token_117 (by decide) ?_
    refine lv_iadd hx hb dX8_token_121 ?_
    refine g_put (D := (dC, dI)) (ci := 8) (v := .int ((I_0 3) + 0)) (ty := .int) (C := RX8) (T := TX8) (N := 19) hx hb hts inX8_token_X8 tyX8 tyX8_ok nmX8 hown hK hP hD hS 0 (eM_0 a cy (upd (upd (upd I_0 5 (I_0 3)) 4 0) 6 r1) A T) rfl 12 (by decide) (hts _ mX8_token_0) (fun _ h9 => h9) rfl (by decide +kernel) rfl rfl (Nat.le_of_ble_eq_true rfl) dX8_token_122 (pM_0_12 a cy (upd (upd (upd I_0 5 (I_0 3)) 4 0) 6 r1) A T ((I_0 3) + 0)) (fun H locs hP hD hS => ?_)
    refine lv_aload_n hx hb dX8_token_125 rfl (lv_at hl 1 rfl) ?_
    refine va_get (D := (dC, dI)) (ci := 8) (v := .int 0) (C := RX8) (T := TX8) (N := 19) hx hb hts inX8_token_X8 hown hK hP 0 (eM_0 a cy (upd (upd (upd (upd I_0 5 (I_0 3)) 4 0) 6 r1) 3 ((I_0 3) + 0)) A T) rfl 13 (by decide) (hts _ mX8_token_2) (fun _ h9 => h9) rfl dX8_token_126 ?_
    refine lv_iconst (v := 2) hx hb dX8_token_129 (by decide) ?_
    refine lv_icmp_ne (tgt := 213) hx hb dX8_token_130 (by decide) (fun _ => ?_) (fun c28 => absurd c28 (by decide))
    obtain rfl := Option.some.inj h
    exact g_vret hx hb hr hK hP hD hS hQ dX8_token_213
theorem inX8_number_X8 : ∀ w ∈ u_ws RX8 TX8 19, w ∈ wsX8_number := by decide +kernel
theorem mX8_number_0 : Cond.fieldLink RX8 16 "WarmBottlesModel" "draft" "[I" ∈ wsX8_number := List.mem_of_getElem? (i := 1) rfl
theorem mX8_number_1 : Cond.fieldLink RX8 76 "WarmBottlesModel" "value" "I" ∈ wsX8_number := List.mem_of_getElem? (i := 2) rfl
theorem mX8_number_2 : Cond.fieldLink RX8 73 "WarmBottlesModel" "sort" "I" ∈ wsX8_number := List.mem_of_getElem? (i := 3) rfl
def rm_X8_number_M : Room := { frames := 9, cells := 0, slots := 0, locals := 390 }
def f_X8_number_M (N : Nat) (I : Nat → Int32) (A : Nat → Nat → Int32) (p1 : Int32) (p2 : Int32) (p3 : Int32) : Option (Int32 × (Nat → Int32) × (Nat → Nat → Int32)) := (Option.bind (f_X8_token_M N I A) (fun r1 => (if p1 < 0 ∨ 23 ≤ p1.toNatClampNeg then none else (if (r1 4) = 2 then (Option.bind (f_X8_in_M N r1 (va_up A 2 (upd (A 2) p1.toNatClampNeg (r1 6))) (r1 6) p2 p3) (fun r4 => (if r4 = 0 then some (0, r1, (va_up A 2 (upd (A 2) p1.toNatClampNeg (r1 6)))) else some (1, r1, (va_up A 2 (upd (A 2) p1.toNatClampNeg (r1 6))))))) else some (0, r1, (va_up A 2 (upd (A 2) p1.toNatClampNeg (r1 6))))))))
set_option maxHeartbeats 4000000 in
set_option maxRecDepth 100000 in
theorem c_X8_number_M (l : Launch) (dC : Nat → ClassId) (dI : Nat → Nat → Nat) (a : Nat → Nat) (cy : Nat → ClassId) (N : Nat) (I : Nat → Int32) (A : Nat → Nat → Int32) (T : Int64) (p1 : Int32) (p2 : Int32) (p3 : Int32) (res : Int32 × (Nat → Int32) × (Nat → Nat → Int32)) (h : f_X8_number_M N I A p1 p2 p3 = some res) (sz : Nat) : Met l yX8_number wsX8_number rm_X8_number_M (g_Pre (dC, dI) cy [.ref (a 0), .int p1, .int p2, .int p3] (wM a cy I A T) sz) (g_Qi (dC, dI) cy res.1 (wM a cy I A T) (wM a cy res.2.1 res.2.2 T) sz) 0 0 (va_A (wM a cy I A T) sz) := by
  unfold f_X8_number_M at h
  refine g_entry _ _ _ _ _ _ (cc := cX8_number) (maxL := 4) (ret := (some .boolean)) (by decide) rfl (Nat.le_of_ble_eq_true rfl) ?_
  intro p e s m args below meth c ls hx hb hml hown hts hr hlocks hA hK hP hD hS hl Q hQ
  have hl : lv_has ls 4 [(0, .ref (a 0)), (1, .int p1), (2, .int p2), (3, .int p3)] := hl
  have hown : s.vm.findClass RX8 = some m.cls := hown
  refine lv_aload_n hx hb dX8_number_0 rfl (lv_at hl 0 rfl) ?_
  obtain ⟨r1, hr1, h⟩ := bnd_some h
  refine g_callVv (As := []) (rest := []) (ci := 8) (q0 := 0) hx hb hml hown hts (c_X8_token_M l dC dI a cy N I A T r1 hr1) (cwV 0 hts gX8_number_X8_token rfl rfl rfl (by decide +kernel) ⟨Nat.le_of_ble_eq_true rfl, Nat.le_of_ble_eq_true rfl⟩) hK hP hD hS hA rfl (eM_0 a cy I A T) rfl rfl hl.1 rfl (Nat.le_of_ble_eq_true rfl) dX8_number_1 (fun H locs hP hD hS => ?_)
  refine lv_aload_n hx hb dX8_number_4 rfl (lv_at hl 0 rfl) ?_
  refine va_get (D := (dC, dI)) (ci := 8) (v := .ref (a 3)) (C := RX8) (T := TX8) (N := 19) hx hb hts inX8_number_X8 hown hK hP 0 (eM_0 a cy r1 A T) rfl 4 (by decide) (hts _ mX8_number_0) (fun _ h9 => h9) rfl dX8_number_5 ?_
  refine lv_iload_n hx hb dX8_number_8 rfl (lv_at hl 1 rfl) ?_
  refine lv_aload_n hx hb dX8_number_9 rfl (lv_at hl 0 rfl) ?_
  refine va_get (D := (dC, dI)) (ci := 8) (v := .int (r1 6)) (C := RX8) (T := TX8) (N := 19) hx hb hts inX8_number_X8 hown hK hP 0 (eM_0 a cy r1 A T) rfl 15 (by decide) (hts _ mX8_number_1) (fun _ h9 => h9) rfl dX8_number_10 ?_
  obtain ⟨i2, h⟩ := inb_some h
  refine g_iast (f := (A 2)) (j := p1.toNatClampNeg) hx hb hK hP hD hS 3 (eM_3 a cy r1 A T) i2 rfl dX8_number_13 (sM_3 a cy r1 A T (upd (A 2) p1.toNatClampNeg (r1 6))) (fun H locs hP hD hS => ?_)
  refine lv_aload_n hx hb dX8_number_14 rfl (lv_at hl 0 rfl) ?_
  refine va_get (D := (dC, dI)) (ci := 8) (v := .int (r1 4)) (C := RX8) (T := TX8) (N := 19) hx hb hts inX8_number_X8 hown hK hP 0 (eM_0 a cy r1 (va_up A 2 (upd (A 2) p1.toNatClampNeg (r1 6))) T) rfl 13 (by decide) (hts _ mX8_number_2) (fun _ h9 => h9) rfl dX8_number_15 ?_
  refine lv_iconst (v := 2) hx hb dX8_number_18 (by decide) ?_
  refine lv_icmp_ne (tgt := 38) hx hb dX8_number_19 (by decide) (fun c3 => ?_) (fun c3 => ?_)
  · replace h := ite_f h c3
    refine lv_iconst (v := 0) hx hb dX8_number_38 (by decide) ?_
    obtain rfl := Option.some.inj h
    exact g_zret hx hb hr (by decide) hK hP hD hS hQ dX8_number_39
  · replace h := ite_t h c3
    refine lv_aload_n hx hb dX8_number_22 rfl (lv_at hl 0 rfl) ?_
    refine va_get (D := (dC, dI)) (ci := 8) (v := .int (r1 6)) (C := RX8) (T := TX8) (N := 19) hx hb hts inX8_number_X8 hown hK hP 0 (eM_0 a cy r1 (va_up A 2 (upd (A 2) p1.toNatClampNeg (r1 6))) T) rfl 15 (by decide) (hts _ mX8_number_1) (fun _ h9 => h9) rfl dX8_number_23 ?_
    refine lv_iload_n hx hb dX8_number_26 rfl (lv_at hl 2 rfl) ?_
    refine lv_iload_n hx hb dX8_number_27 rfl (lv_at hl 3 rfl) ?_
    obtain ⟨r4, hr4, h⟩ := bnd_some h
    refine g_callSi (As := [.int (r1 6), .int p2, .int p3]) (rest := []) hx hb hml hown hts (c_X8_in_M l dC dI a cy N r1 (va_up A 2 (upd (A 2) p1.toNatClampNeg (r1 6))) T (r1 6) p2 p3 r4 hr4) (va_cwS 3 hts gX8_number_X8_in rfl rfl rfl (by decide +kernel) ⟨Nat.le_of_ble_eq_true rfl, Nat.le_of_ble_eq_true rfl⟩) hK hP hD hS hA rfl hl.1 rfl (Nat.le_of_ble_eq_true rfl) dX8_number_28 (fun H locs hP hD hS => ?_)
    refine lv_if_eq (tgt := 38) hx hb dX8_number_31 (by decide) (fun c5 => ?_) (fun c5 => ?_)
    · replace h := ite_t h c5
      refine lv_iconst (v := 0) hx hb dX8_number_38 (by decide) ?_
      obtain rfl := Option.some.inj h
      exact g_zret hx hb hr (by decide) hK hP hD hS hQ dX8_number_39
    · replace h := ite_f h c5
      refine lv_iconst (v := 1) hx hb dX8_number_34 (by decide) ?_
      refine lv_goto (tgt := 39) hx hb dX8_number_35 (by decide) ?_
      obtain rfl := Option.some.inj h
      exact g_zret hx hb hr (by decide) hK hP hD hS hQ dX8_number_39
theorem inX8_once_X8 : ∀ w ∈ u_ws RX8 TX8 19, w ∈ wsX8_once := by decide +kernel
theorem mX8_once_0 : Cond.fieldLink RX8 16 "WarmBottlesModel" "draft" "[I" ∈ wsX8_once := List.mem_of_getElem? (i := 1) rfl
def rm_X8_once_M : Room := { frames := 11, cells := 0, slots := 0, locals := 450 }
def f_X8_once_M (N : Nat) (I : Nat → Int32) (A : Nat → Nat → Int32) (p1 : Int32) (p2 : Int32) (p3 : Int32) (p4 : Int32) : Option (Int32 × (Nat → Int32) × (Nat → Nat → Int32)) := (if (((A 2) 4) &&& p1) = 0 then (Option.bind (f_X8_number_M N I (va_up A 2 (upd (A 2) 4 (((A 2) 4) ||| p1))) p2 p3 p4) (fun r2 => (if r2.1 = 0 ∨ r2.1 = 1 then some (r2.1, r2.2.1, r2.2.2) else none))) else some (0, I, A))
set_option maxHeartbeats 4000000 in
set_option maxRecDepth 100000 in
theorem c_X8_once_M (l : Launch) (dC : Nat → ClassId) (dI : Nat → Nat → Nat) (a : Nat → Nat) (cy : Nat → ClassId) (N : Nat) (I : Nat → Int32) (A : Nat → Nat → Int32) (T : Int64) (p1 : Int32) (p2 : Int32) (p3 : Int32) (p4 : Int32) (res : Int32 × (Nat → Int32) × (Nat → Nat → Int32)) (h : f_X8_once_M N I A p1 p2 p3 p4 = some res) (sz : Nat) : Met l yX8_once wsX8_once rm_X8_once_M (g_Pre (dC, dI) cy [.ref (a 0), .int p1, .int p2, .int p3, .int p4] (wM a cy I A T) sz) (g_Qi (dC, dI) cy res.1 (wM a cy I A T) (wM a cy res.2.1 res.2.2 T) sz) 0 0 (va_A (wM a cy I A T) sz) := by
  unfold f_X8_once_M at h
  refine g_entry _ _ _ _ _ _ (cc := cX8_once) (maxL := 5) (ret := (some .boolean)) (by decide) rfl (Nat.le_of_ble_eq_true rfl) ?_
  intro p e s m args below meth c ls hx hb hml hown hts hr hlocks hA hK hP hD hS hl Q hQ
  have hl : lv_has ls 5 [(0, .ref (a 0)), (1, .int p1), (2, .int p2), (3, .int p3), (4, .int p4)] := hl
  have hown : s.vm.findClass RX8 = some m.cls := hown
  refine lv_aload_n hx hb dX8_once_0 rfl (lv_at hl 0 rfl) ?_
  refine va_get (D := (dC, dI)) (ci := 8) (v := .ref (a 3)) (C := RX8) (T := TX8) (N := 19) hx hb hts inX8_once_X8 hown hK hP 0 (eM_0 a cy I A T) rfl 4 (by decide) (hts _ mX8_once_0) (fun _ h9 => h9) rfl dX8_once_1 ?_
  refine lv_iconst (v := 4) hx hb dX8_once_4 (by decide) ?_
  refine g_iald (f := (A 2)) (j := 4) hx hb hK hP 3 (eM_3 a cy I A T) (lit_in (by decide) : vp_in 4 23) rfl dX8_once_5 ?_
  refine lv_iload_n hx hb dX8_once_6 rfl (lv_at hl 1 rfl) ?_
  refine lv_iand hx hb dX8_once_7 ?_
  refine lv_if_eq (tgt := 13) hx hb dX8_once_8 (by decide) (fun c1 => ?_) (fun c1 => ?_)
  · replace h := ite_t h c1
    refine lv_aload_n hx hb dX8_once_13 rfl (lv_at hl 0 rfl) ?_
    refine va_get (D := (dC, dI)) (ci := 8) (v := .ref (a 3)) (C := RX8) (T := TX8) (N := 19) hx hb hts inX8_once_X8 hown hK hP 0 (eM_0 a cy I A T) rfl 4 (by decide) (hts _ mX8_once_0) (fun _ h9 => h9) rfl dX8_once_14 ?_
    refine lv_iconst (v := 4) hx hb dX8_once_17 (by decide) ?_
    refine lv_dup2_11 hx hb dX8_once_18 rfl rfl ?_
    refine g_iald (f := (A 2)) (j := 4) hx hb hK hP 3 (eM_3 a cy I A T) (lit_in (by decide) : vp_in 4 23) rfl dX8_once_19 ?_
    refine lv_iload_n hx hb dX8_once_20 rfl (lv_at hl 1 rfl) ?_
    refine lv_ior hx hb dX8_once_21 ?_
    refine g_iast (f := (A 2)) (j := 4) hx hb hK hP hD hS 3 (eM_3 a cy I A T) (lit_in (by decide) : vp_in 4 23) rfl dX8_once_22 (sM_3 a cy I A T (upd (A 2) 4 (((A 2) 4) ||| p1))) (fun H locs hP hD hS => ?_)
    refine lv_aload_n hx hb dX8_once_23 rfl (lv_at hl 0 rfl) ?_
    refine lv_iload_n hx hb dX8_once_24 rfl (lv_at hl 2 rfl) ?_
    refine lv_iload_n hx hb dX8_once_25 rfl (lv_at hl 3 rfl) ?_
    refine lv_iload hx hb dX8_once_26 (lv_at hl 4 rfl) ?_
    obtain ⟨r2, hr2, h⟩ := bnd_some h
    refine g_callVi (As := [.int p2, .int p3, .int p4]) (rest := []) (ci := 8) (q0 := 0) hx hb hml hown hts (c_X8_number_M l dC dI a cy N I (va_up A 2 (upd (A 2) 4 (((A 2) 4) ||| p1))) T p2 p3 p4 r2 hr2) (cwV 3 hts gX8_once_X8_number rfl rfl rfl (by decide +kernel) ⟨Nat.le_of_ble_eq_true rfl, Nat.le_of_ble_eq_true rfl⟩) hK hP hD hS hA rfl (eM_0 a cy I (va_up A 2 (upd (A 2) 4 (((A 2) 4) ||| p1))) T) rfl rfl hl.1 rfl (Nat.le_of_ble_eq_true rfl) dX8_once_28 (fun H locs hP hD hS => ?_)
    obtain ⟨b3, h⟩ := bool_some h
    obtain rfl := Option.some.inj h
    exact g_zret hx hb hr b3 hK hP hD hS hQ dX8_once_31
  · replace h := ite_f h c1
    refine lv_iconst (v := 0) hx hb dX8_once_11 (by decide) ?_
    obtain rfl := Option.some.inj h
    exact g_zret hx hb hr (by decide) hK hP hD hS hQ dX8_once_12
