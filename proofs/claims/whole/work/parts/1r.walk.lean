theorem inX8_back_X8 : ∀ w ∈ u_ws RX8 TX8 19, w ∈ wsX8_back := by decide +kernel
theorem mX8_back_0 : Cond.fieldLink RX8 28 "WarmBottlesModel" "kept" "[Z" ∈ wsX8_back := List.mem_of_getElem? (i := 1) rfl
theorem mX8_back_1 : Cond.fieldLink RX8 92 "WarmBottlesModel" "known" "I" ∈ wsX8_back := List.mem_of_getElem? (i := 4) rfl
theorem mX8_back_2 : Cond.fieldLink RX8 19 "WarmBottlesModel" "s" "[I" ∈ wsX8_back := List.mem_of_getElem? (i := 2) rfl
theorem mX8_back_3 : Cond.fieldLink RX8 25 "WarmBottlesModel" "images" "[I" ∈ wsX8_back := List.mem_of_getElem? (i := 3) rfl
def rm_X8_back_M : Room := { frames := 5, cells := 0, slots := 0, locals := 270 }
def f_X8_back_M_L25 (N : Nat) (k_25 : Int32 → (Nat → Nat → Int32) → Option (Int32 × (Nat → Int32) × (Nat → Nat → Int32))) (x1 : Int32) (I : (Nat → Int32)) : Nat → Int32 → (Nat → Nat → Int32) → Option (Int32 × (Nat → Int32) × (Nat → Nat → Int32))
  | 0, _, _ => none
  | n_25 + 1, x2, A_25 => (if 15 ≤ x2 then (k_25 x2 A_25) else (if ((15 * x1) + x2) < 0 ∨ 30 ≤ (((15 * x1) + x2)).toNatClampNeg then none else (if x2 < 0 ∨ 15 ≤ x2.toNatClampNeg then none else (f_X8_back_M_L25 N k_25 x1 I n_25 (x2 + 1) (va_up A_25 3 (upd (A_25 3) x2.toNatClampNeg ((A_25 5) (((15 * x1) + x2)).toNatClampNeg)))))))
def f_X8_back_M (N : Nat) (I : Nat → Int32) (A : Nat → Nat → Int32) (p1 : Int32) : Option (Int32 × (Nat → Int32) × (Nat → Nat → Int32)) := (Option.bind (f_X8_in_M N I A p1 0 1) (fun r1 => (if r1 = 0 then some ((-1), I, A) else (if p1 < 0 ∨ 2 ≤ p1.toNatClampNeg then none else (if ((A 6) p1.toNatClampNeg) = 0 then some ((-2), I, A) else (f_X8_back_M_L25 N (fun (x2 : Int32) (A_25 : (Nat → Nat → Int32)) => some (((A_25 3) 0), (upd I 1 0), A_25)) p1 I N 0 A))))))
set_option maxHeartbeats 4000000 in
set_option maxRecDepth 100000 in
theorem c_X8_back_M (l : Launch) (dC : Nat → ClassId) (dI : Nat → Nat → Nat) (a : Nat → Nat) (cy : Nat → ClassId) (N : Nat) (I : Nat → Int32) (A : Nat → Nat → Int32) (T : Int64) (p1 : Int32) (res : Int32 × (Nat → Int32) × (Nat → Nat → Int32)) (h : f_X8_back_M N I A p1 = some res) (sz : Nat) : Met l yX8_back wsX8_back rm_X8_back_M (g_Pre (dC, dI) cy [.ref (a 0), .int p1] (wM a cy I A T) sz) (g_Qi (dC, dI) cy res.1 (wM a cy I A T) (wM a cy res.2.1 res.2.2 T) sz) 0 0 (va_A (wM a cy I A T) sz) := by
  unfold f_X8_back_M at h
  refine g_entry _ _ _ _ _ _ (cc := cX8_back) (maxL := 3) (ret := (some .int)) (by decide) rfl (Nat.le_of_ble_eq_true rfl) ?_
  intro p e s m args below meth c ls hx hb hml hown hts hr hlocks hA hK hP hD hS hl Q hQ
  have hl : lv_has ls 3 [(0, .ref (a 0)), (1, .int p1)] := hl
  have hown : s.vm.findClass RX8 = some m.cls := hown
  refine lv_iload_n hx hb dX8_back_0 rfl (lv_at hl 1 rfl) ?_
  refine lv_iconst (v := 0) hx hb dX8_back_1 (by decide) ?_
  refine lv_iconst (v := 1) hx hb dX8_back_2 (by decide) ?_
  obtain ⟨r1, hr1, h⟩ := bnd_some h
  refine g_callSi (As := [.int p1, .int 0, .int 1]) (rest := []) hx hb hml hown hts (c_X8_in_M l dC dI a cy N I A T p1 0 1 r1 hr1) (va_cwS 3 hts gX8_back_X8_in rfl rfl rfl (by decide +kernel) ⟨Nat.le_of_ble_eq_true rfl, Nat.le_of_ble_eq_true rfl⟩) hK hP hD hS hA rfl hl.1 rfl (Nat.le_of_ble_eq_true rfl) dX8_back_3 (fun H locs hP hD hS => ?_)
  refine lv_if_ne (tgt := 11) hx hb dX8_back_6 (by decide) (fun c2 => ?_) (fun c2 => ?_)
  · replace h := ite_f h c2
    refine lv_aload_n hx hb dX8_back_11 rfl (lv_at hl 0 rfl) ?_
    refine va_get (D := (dC, dI)) (ci := 8) (v := .ref (a 7)) (C := RX8) (T := TX8) (N := 19) hx hb hts inX8_back_X8 hown hK hP 0 (eM_0 a cy I A T) rfl 9 (by decide) (hts _ mX8_back_0) (fun _ h9 => h9) rfl dX8_back_12 ?_
    refine lv_iload_n hx hb dX8_back_15 rfl (lv_at hl 1 rfl) ?_
    obtain ⟨i3, h⟩ := inb_some h
    refine g_zald (f := (A 6)) (j := p1.toNatClampNeg) hx hb hK hP 7 (eM_7 a cy I A T) i3 rfl dX8_back_16 ?_
    refine lv_if_ne (tgt := 23) hx hb dX8_back_17 (by decide) (fun c4 => ?_) (fun c4 => ?_)
    · replace h := ite_f h c4
      refine lv_iconst (v := 0) hx hb dX8_back_23 (by decide) ?_
      refine lv_istore_n (lv' := [(2, .int 0), (0, .ref (a 0)), (1, .int p1)]) hx hb dX8_back_24 rfl hl (by decide) rfl (fun ls hl => ?_)
      have lp25 : ∀ (x1 : Int32) (k_25 : Int32 → (Nat → Nat → Int32) → Option (Int32 × (Nat → Int32) × (Nat → Nat → Int32))), (∀ (x2 : Int32) (A_25 : (Nat → Nat → Int32)), k_25 x2 A_25 = some res → g_At (dC, dI) p l e (headSpec wsX8_back rm_X8_back_M).room s m args below meth c Q (wM a cy I A T) sz 3 (wM a cy I A_25 T) [(0, .ref (a 0))] 54 []) → ∀ (n_25 : Nat) (x2 : Int32) (A_25 : (Nat → Nat → Int32)), f_X8_back_M_L25 N k_25 x1 I n_25 x2 A_25 = some res → g_At (dC, dI) p l e (headSpec wsX8_back rm_X8_back_M).room s m args below meth c Q (wM a cy I A T) sz 3 (wM a cy I A_25 T) [(0, .ref (a 0)), (1, .int x1), (2, .int x2)] 25 [] := by
        intro x1 k_25 hk_25 n_25
        induction n_25 with
        | zero =>
          intro x2 A_25 h
          exact absurd h (by rw [f_X8_back_M_L25]; exact fun q => by cases q)
        | succ n_25 ih25 =>
          intro x2 A_25 h H locs hP hD hS ls hl
          rw [f_X8_back_M_L25] at h
          refine lv_iload_n hx hb dX8_back_25 rfl (lv_at hl 2 rfl) ?_
          refine lv_bipush (v := 15) hx hb dX8_back_26 (by decide) ?_
          refine lv_icmp_ge (tgt := 54) hx hb dX8_back_28 (by decide) (fun c5 => ?_) (fun c5 => ?_)
          · replace h := ite_t h c5
            exact hk_25 _ _ h _ _ hP hD hS _ (lv_sub hl [0] rfl)
          · replace h := ite_f h c5
            refine lv_aload_n hx hb dX8_back_31 rfl (lv_at hl 0 rfl) ?_
            refine va_get (D := (dC, dI)) (ci := 8) (v := .ref (a 4)) (C := RX8) (T := TX8) (N := 19) hx hb hts inX8_back_X8 hown hK hP 0 (eM_0 a cy I A_25 T) rfl 5 (by decide) (hts _ mX8_back_2) (fun _ h9 => h9) rfl dX8_back_32 ?_
            refine lv_iload_n hx hb dX8_back_35 rfl (lv_at hl 2 rfl) ?_
            refine lv_aload_n hx hb dX8_back_36 rfl (lv_at hl 0 rfl) ?_
            refine va_get (D := (dC, dI)) (ci := 8) (v := .ref (a 6)) (C := RX8) (T := TX8) (N := 19) hx hb hts inX8_back_X8 hown hK hP 0 (eM_0 a cy I A_25 T) rfl 8 (by decide) (hts _ mX8_back_3) (fun _ h9 => h9) rfl dX8_back_37 ?_
            refine lv_bipush (v := 15) hx hb dX8_back_40 (by decide) ?_
            refine lv_iload_n hx hb dX8_back_42 rfl (lv_at hl 1 rfl) ?_
            refine lv_imul hx hb dX8_back_43 ?_
            refine lv_iload_n hx hb dX8_back_44 rfl (lv_at hl 2 rfl) ?_
            refine lv_iadd hx hb dX8_back_45 ?_
            obtain ⟨i6, h⟩ := inb_some h
            refine g_iald (f := (A_25 5)) (j := (((15 * x1) + x2)).toNatClampNeg) hx hb hK hP 6 (eM_6 a cy I A_25 T) i6 rfl dX8_back_46 ?_
            obtain ⟨i7, h⟩ := inb_some h
            refine g_iast (f := (A_25 3)) (j := x2.toNatClampNeg) hx hb hK hP hD hS 4 (eM_4 a cy I A_25 T) i7 rfl dX8_back_47 (sM_4 a cy I A_25 T (upd (A_25 3) x2.toNatClampNeg ((A_25 5) (((15 * x1) + x2)).toNatClampNeg))) (fun H locs hP hD hS => ?_)
            refine lv_iinc (v := (x2 + 1)) (lv' := [(2, .int (x2 + 1)), (0, .ref (a 0)), (1, .int x1)]) hx hb dX8_back_48 hl (k := 2) rfl rfl (by decide) rfl (fun ls hl => ?_)
            refine lv_goto (tgt := 25) hx hb dX8_back_51 (by decide) ?_
            exact ih25 _ _ h _ _ hP hD hS _ (lv_sub hl [1, 2, 0] rfl)
      refine lp25 _ _ ?_ N _ _ h _ _ hP hD hS _ (lv_sub hl [1, 2, 0] rfl)
      intro x2 A_25 h H locs hP hD hS ls hl
      refine lv_aload_n hx hb dX8_back_54 rfl (lv_at hl 0 rfl) ?_
      refine lv_iconst (v := 0) hx hb dX8_back_55 (by decide) ?_
      refine g_put (D := (dC, dI)) (ci := 8) (v := .int 0) (ty := .int) (C := RX8) (T := TX8) (N := 19) hx hb hts inX8_back_X8 tyX8 tyX8_ok nmX8 hown hK hP hD hS 0 (eM_0 a cy I A_25 T) rfl 7 (by decide) (hts _ mX8_back_1) (fun _ h9 => h9) rfl (by decide +kernel) rfl rfl (Nat.le_of_ble_eq_true rfl) dX8_back_56 (pM_0_7 a cy I A_25 T 0) (fun H locs hP hD hS => ?_)
      refine lv_aload_n hx hb dX8_back_59 rfl (lv_at hl 0 rfl) ?_
      refine va_get (D := (dC, dI)) (ci := 8) (v := .ref (a 4)) (C := RX8) (T := TX8) (N := 19) hx hb hts inX8_back_X8 hown hK hP 0 (eM_0 a cy (upd I 1 0) A_25 T) rfl 5 (by decide) (hts _ mX8_back_2) (fun _ h9 => h9) rfl dX8_back_60 ?_
      refine lv_iconst (v := 0) hx hb dX8_back_63 (by decide) ?_
      refine g_iald (f := (A_25 3)) (j := 0) hx hb hK hP 4 (eM_4 a cy (upd I 1 0) A_25 T) (lit_in (by decide) : vp_in 0 15) rfl dX8_back_64 ?_
      obtain rfl := Option.some.inj h
      exact g_iret hx hb hr hK hP hD hS hQ dX8_back_65
    · replace h := ite_t h c4
      refine lv_bipush (v := (-2)) hx hb dX8_back_20 (by decide) ?_
      obtain rfl := Option.some.inj h
      exact g_iret hx hb hr hK hP hD hS hQ dX8_back_22
  · replace h := ite_t h c2
    refine lv_iconst (v := (-1)) hx hb dX8_back_9 (by decide) ?_
    obtain rfl := Option.some.inj h
    exact g_iret hx hb hr hK hP hD hS hQ dX8_back_10
theorem inX8_count_X8 : ∀ w ∈ u_ws RX8 TX8 19, w ∈ wsX8_count := by decide +kernel
theorem mX8_count_0 : Cond.fieldLink RX8 13 "WarmBottlesModel" "told" "[I" ∈ wsX8_count := List.mem_of_getElem? (i := 1) rfl
theorem mX8_count_1 : Cond.fieldLink RX8 95 "WarmBottlesModel" "noted" "I" ∈ wsX8_count := List.mem_of_getElem? (i := 2) rfl
theorem mX8_count_2 : Cond.fieldLink RX8 55 "WarmBottlesModel" "typed" "I" ∈ wsX8_count := List.mem_of_getElem? (i := 3) rfl
def rm_X8_count_M : Room := { frames := 3, cells := 0, slots := 0, locals := 210 }
def f_X8_count_M (N : Nat) (I : Nat → Int32) (A : Nat → Nat → Int32) (p1 : Int32) : Option (Int32) := (if p1 = 0 then some ((A 1) 0) else (if p1 = 1 then some ((A 1) 1) else (if p1 = 2 then some ((A 1) 2) else (if p1 = 3 then some (I 2) else (if p1 = 4 then some (I 0) else some (-1))))))
set_option maxHeartbeats 4000000 in
set_option maxRecDepth 100000 in
theorem c_X8_count_M (l : Launch) (dC : Nat → ClassId) (dI : Nat → Nat → Nat) (a : Nat → Nat) (cy : Nat → ClassId) (N : Nat) (I : Nat → Int32) (A : Nat → Nat → Int32) (T : Int64) (p1 : Int32) (res : Int32) (h : f_X8_count_M N I A p1 = some res) (sz : Nat) : Met l yX8_count wsX8_count rm_X8_count_M (g_Pre (dC, dI) cy [.ref (a 0), .int p1] (wM a cy I A T) sz) (g_Qi (dC, dI) cy res (wM a cy I A T) (wM a cy I A T) sz) 0 0 (va_A (wM a cy I A T) sz) := by
  unfold f_X8_count_M at h
  refine g_entry _ _ _ _ _ _ (cc := cX8_count) (maxL := 2) (ret := (some .int)) (by decide) rfl (Nat.le_of_ble_eq_true rfl) ?_
  intro p e s m args below meth c ls hx hb hml hown hts hr hlocks hA hK hP hD hS hl Q hQ
  have hl : lv_has ls 2 [(0, .ref (a 0)), (1, .int p1)] := hl
  have hown : s.vm.findClass RX8 = some m.cls := hown
  refine lv_iload_n hx hb dX8_count_0 rfl (lv_at hl 1 rfl) ?_
  rcases Decidable.em (p1 = 0) with c1 | c1
  · replace h := ite_t h c1
    refine lv_tableIn (off := 35) (tgt := 36) hx hb dX8_count_1 (by rw [c1]; decide) (by rw [c1]; decide) (by rw [c1]; rfl) (by decide) ?_
    refine lv_aload_n hx hb dX8_count_36 rfl (lv_at hl 0 rfl) ?_
    refine va_get (D := (dC, dI)) (ci := 8) (v := .ref (a 2)) (C := RX8) (T := TX8) (N := 19) hx hb hts inX8_count_X8 hown hK hP 0 (eM_0 a cy I A T) rfl 3 (by decide) (hts _ mX8_count_0) (fun _ h9 => h9) rfl dX8_count_37 ?_
    refine lv_iconst (v := 0) hx hb dX8_count_40 (by decide) ?_
    refine g_iald (f := (A 1)) (j := 0) hx hb hK hP 2 (eM_2 a cy I A T) (lit_in (by decide) : vp_in 0 23) rfl dX8_count_41 ?_
    obtain rfl := Option.some.inj h
    exact g_iret hx hb hr hK hP hD hS hQ dX8_count_42
  · replace h := ite_f h c1
    rcases Decidable.em (p1 = 1) with c2 | c2
    · replace h := ite_t h c2
      refine lv_tableIn (off := 42) (tgt := 43) hx hb dX8_count_1 (by rw [c2]; decide) (by rw [c2]; decide) (by rw [c2]; rfl) (by decide) ?_
      refine lv_aload_n hx hb dX8_count_43 rfl (lv_at hl 0 rfl) ?_
      refine va_get (D := (dC, dI)) (ci := 8) (v := .ref (a 2)) (C := RX8) (T := TX8) (N := 19) hx hb hts inX8_count_X8 hown hK hP 0 (eM_0 a cy I A T) rfl 3 (by decide) (hts _ mX8_count_0) (fun _ h9 => h9) rfl dX8_count_44 ?_
      refine lv_iconst (v := 1) hx hb dX8_count_47 (by decide) ?_
      refine g_iald (f := (A 1)) (j := 1) hx hb hK hP 2 (eM_2 a cy I A T) (lit_in (by decide) : vp_in 1 23) rfl dX8_count_48 ?_
      obtain rfl := Option.some.inj h
      exact g_iret hx hb hr hK hP hD hS hQ dX8_count_49
    · replace h := ite_f h c2
      rcases Decidable.em (p1 = 2) with c3 | c3
      · replace h := ite_t h c3
        refine lv_tableIn (off := 49) (tgt := 50) hx hb dX8_count_1 (by rw [c3]; decide) (by rw [c3]; decide) (by rw [c3]; rfl) (by decide) ?_
        refine lv_aload_n hx hb dX8_count_50 rfl (lv_at hl 0 rfl) ?_
        refine va_get (D := (dC, dI)) (ci := 8) (v := .ref (a 2)) (C := RX8) (T := TX8) (N := 19) hx hb hts inX8_count_X8 hown hK hP 0 (eM_0 a cy I A T) rfl 3 (by decide) (hts _ mX8_count_0) (fun _ h9 => h9) rfl dX8_count_51 ?_
        refine lv_iconst (v := 2) hx hb dX8_count_54 (by decide) ?_
        refine g_iald (f := (A 1)) (j := 2) hx hb hK hP 2 (eM_2 a cy I A T) (lit_in (by decide) : vp_in 2 23) rfl dX8_count_55 ?_
        obtain rfl := Option.some.inj h
        exact g_iret hx hb hr hK hP hD hS hQ dX8_count_56
      · replace h := ite_f h c3
        rcases Decidable.em (p1 = 3) with c4 | c4
        · replace h := ite_t h c4
          refine lv_tableIn (off := 56) (tgt := 57) hx hb dX8_count_1 (by rw [c4]; decide) (by rw [c4]; decide) (by rw [c4]; rfl) (by decide) ?_
          refine lv_aload_n hx hb dX8_count_57 rfl (lv_at hl 0 rfl) ?_
          refine va_get (D := (dC, dI)) (ci := 8) (v := .int (I 2)) (C := RX8) (T := TX8) (N := 19) hx hb hts inX8_count_X8 hown hK hP 0 (eM_0 a cy I A T) rfl 11 (by decide) (hts _ mX8_count_1) (fun _ h9 => h9) rfl dX8_count_58 ?_
          obtain rfl := Option.some.inj h
          exact g_iret hx hb hr hK hP hD hS hQ dX8_count_61
        · replace h := ite_f h c4
          rcases Decidable.em (p1 = 4) with c5 | c5
          · replace h := ite_t h c5
            refine lv_tableIn (off := 61) (tgt := 62) hx hb dX8_count_1 (by rw [c5]; decide) (by rw [c5]; decide) (by rw [c5]; rfl) (by decide) ?_
            refine lv_aload_n hx hb dX8_count_62 rfl (lv_at hl 0 rfl) ?_
            refine va_get (D := (dC, dI)) (ci := 8) (v := .int (I 0)) (C := RX8) (T := TX8) (N := 19) hx hb hts inX8_count_X8 hown hK hP 0 (eM_0 a cy I A T) rfl 2 (by decide) (hts _ mX8_count_2) (fun _ h9 => h9) rfl dX8_count_63 ?_
            obtain rfl := Option.some.inj h
            exact g_iret hx hb hr hK hP hD hS hQ dX8_count_66
          · replace h := ite_f h c5
            refine lv_tableOut (tgt := 67) hx hb dX8_count_1 (by have q0 := lv_neT (a := 0) c1 rfl; have q1 := lv_neT (a := 1) c2 rfl; have q2 := lv_neT (a := 2) c3 rfl; have q3 := lv_neT (a := 3) c4 rfl; have q4 := lv_neT (a := 4) c5 rfl; omega) (by decide) ?_
            refine lv_iconst (v := (-1)) hx hb dX8_count_67 (by decide) ?_
            obtain rfl := Option.some.inj h
            exact g_iret hx hb hr hK hP hD hS hQ dX8_count_68
theorem inX8_trace_X8 : ∀ w ∈ u_ws RX8 TX8 19, w ∈ wsX8_trace := by decide +kernel
theorem mX8_trace_0 : Cond.fieldLink RX8 152 "WarmBottlesModel" "trace" "J" ∈ wsX8_trace := List.mem_of_getElem? (i := 1) rfl
def rm_X8_trace_M : Room := { frames := 3, cells := 0, slots := 0, locals := 210 }
def f_X8_trace_M (N : Nat) (I : Nat → Int32) (A : Nat → Nat → Int32) (T : Int64)  : Option (Int64) := some T
set_option maxHeartbeats 4000000 in
set_option maxRecDepth 100000 in
theorem c_X8_trace_M (l : Launch) (dC : Nat → ClassId) (dI : Nat → Nat → Nat) (a : Nat → Nat) (cy : Nat → ClassId) (N : Nat) (I : Nat → Int32) (A : Nat → Nat → Int32) (T : Int64)  (res : Int64) (h : f_X8_trace_M N I A T  = some res) (sz : Nat) : Met l yX8_trace wsX8_trace rm_X8_trace_M (g_Pre (dC, dI) cy [.ref (a 0)] (wM a cy I A T) sz) (g_Ql (dC, dI) cy res (wM a cy I A T) (wM a cy I A T) sz) 0 0 (va_A (wM a cy I A T) sz) := by
  unfold f_X8_trace_M at h
  refine g_entry _ _ _ _ _ _ (cc := cX8_trace) (maxL := 1) (ret := (some .long)) (by decide) rfl (Nat.le_of_ble_eq_true rfl) ?_
  intro p e s m args below meth c ls hx hb hml hown hts hr hlocks hA hK hP hD hS hl Q hQ
  have hl : lv_has ls 1 [(0, .ref (a 0))] := hl
  have hown : s.vm.findClass RX8 = some m.cls := hown
  refine lv_aload_n hx hb dX8_trace_0 rfl (lv_at hl 0 rfl) ?_
  refine va_get (D := (dC, dI)) (ci := 8) (v := .long T) (C := RX8) (T := TX8) (N := 19) hx hb hts inX8_trace_X8 hown hK hP 0 (eM_0 a cy I A T) rfl 0 (by decide) (hts _ mX8_trace_0) (fun _ h9 => h9) rfl dX8_trace_1 ?_
  obtain rfl := Option.some.inj h
  exact g_lret hx hb hr hK hP hD hS hQ dX8_trace_4
