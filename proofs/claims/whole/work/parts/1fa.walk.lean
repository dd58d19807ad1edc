theorem inX2_staysWarmByFilling_X3 : ∀ w ∈ u_ws RX3 TX3 6, w ∈ wsX2_staysWarmByFilling := by decide +kernel
theorem mX2_staysWarmByFilling_0 : Cond.fieldLink RX2 36 "WarmBottles$Night" "told" "LWarmBottles$Told;" ∈ wsX2_staysWarmByFilling := List.mem_of_getElem? (i := 1) rfl
theorem inX2_staysWarmByFilling_X6 : ∀ w ∈ u_ws RX6 TX6 6, w ∈ wsX2_staysWarmByFilling := by decide +kernel
theorem mX2_staysWarmByFilling_1 : Cond.fieldLink RX2 40 "WarmBottles$Told" "bottles" "I" ∈ wsX2_staysWarmByFilling := List.mem_of_getElem? (i := 2) rfl
theorem inX2_staysWarmByFilling_X2 : ∀ w ∈ u_ws RX2 TX2 2, w ∈ wsX2_staysWarmByFilling := by decide +kernel
theorem mX2_staysWarmByFilling_2 : Cond.fieldLink RX2 15 "WarmBottles$Keeping" "warm" "[I" ∈ wsX2_staysWarmByFilling := List.mem_of_getElem? (i := 3) rfl
theorem mX2_staysWarmByFilling_3 : Cond.fieldLink RX2 9 "WarmBottles$Keeping" "loss" "[I" ∈ wsX2_staysWarmByFilling := List.mem_of_getElem? (i := 4) rfl
def rm_X2_staysWarmByFilling_C : Room := { frames := 5, cells := 0, slots := 0, locals := 270 }
def f_X2_staysWarmByFilling_C_L20 (N : Nat) (k_20 : Int32 → (Nat → Nat → Int32) → Option (Int32 × (Nat → Nat → Int32))) (x2 : Int32) (x4 : Int32) (I : (Nat → Int32)) : Nat → Int32 → (Nat → Nat → Int32) → Option (Int32 × (Nat → Nat → Int32))
  | 0, _, _ => none
  | n_20 + 1, x5, A_20 => (if (I 13) ≤ x5 then (k_20 x5 A_20) else (if (x4 + x5) < 0 ∨ 30 ≤ ((x4 + x5)).toNatClampNeg then none else (if x5 = x2 then (Option.bind (f_X3_warmBy_C N I A_20 ((A_20 15) ((x4 + x5)).toNatClampNeg) 1) (fun r10 => (if x5 < 0 ∨ 6 ≤ x5.toNatClampNeg then none else (if 0 < (r10 - ((A_20 14) x5.toNatClampNeg)) then (if ((x4 + 6) + x5) < 0 ∨ 30 ≤ (((x4 + 6) + x5)).toNatClampNeg then none else (f_X2_staysWarmByFilling_C_L20 N k_20 x2 x4 I n_20 (x5 + 1) (va_up A_20 15 (upd (A_20 15) (((x4 + 6) + x5)).toNatClampNeg (r10 - ((A_20 14) x5.toNatClampNeg)))))) else some (0, A_20))))) else (Option.bind (f_X3_warmBy_C N I A_20 ((A_20 15) ((x4 + x5)).toNatClampNeg) 0) (fun r6 => (if x5 < 0 ∨ 6 ≤ x5.toNatClampNeg then none else (if 0 < (r6 - ((A_20 14) x5.toNatClampNeg)) then (if ((x4 + 6) + x5) < 0 ∨ 30 ≤ (((x4 + 6) + x5)).toNatClampNeg then none else (f_X2_staysWarmByFilling_C_L20 N k_20 x2 x4 I n_20 (x5 + 1) (va_up A_20 15 (upd (A_20 15) (((x4 + 6) + x5)).toNatClampNeg (r6 - ((A_20 14) x5.toNatClampNeg)))))) else some (0, A_20))))))))
def f_X2_staysWarmByFilling_C (N : Nat) (I : Nat → Int32) (A : Nat → Nat → Int32) (p2 : Int32) (p3 : Int32) : Option (Int32 × (Nat → Nat → Int32)) := (if p3 < 0 then some (0, A) else (if p3 < 4 then (f_X2_staysWarmByFilling_C_L20 N (fun (x5 : Int32) (A_20 : (Nat → Nat → Int32)) => some (1, A_20)) p2 (p3 * 6) I N 0 A) else some (0, A)))
set_option maxHeartbeats 4000000 in
set_option maxRecDepth 100000 in
theorem c_X2_staysWarmByFilling_C (l : Launch) (dC : Nat → ClassId) (dI : Nat → Nat → Nat) (a : Nat → Nat) (cy : Nat → ClassId) (N : Nat) (I : Nat → Int32) (A : Nat → Nat → Int32) (T : Int64) (p2 : Int32) (p3 : Int32) (res : Int32 × (Nat → Nat → Int32)) (h : f_X2_staysWarmByFilling_C N I A p2 p3 = some res) (sz : Nat) : Met l yX2_staysWarmByFilling wsX2_staysWarmByFilling rm_X2_staysWarmByFilling_C (g_Pre (dC, dI) cy [.ref (a 23), .ref (a 7), .int p2, .int p3] (wC a cy I A T) sz) (g_Qi (dC, dI) cy res.1 (wC a cy I A T) (wC a cy I res.2 T) sz) 0 0 (va_A (wC a cy I A T) sz) := by
  unfold f_X2_staysWarmByFilling_C at h
  refine g_entry _ _ _ _ _ _ (cc := cX2_staysWarmByFilling) (maxL := 7) (ret := (some .boolean)) (by decide) rfl (Nat.le_of_ble_eq_true rfl) ?_
  intro p e s m args below meth c ls hx hb hml hown hts hr hlocks hA hK hP hD hS hl Q hQ
  have hl : lv_has ls 7 [(0, .ref (a 23)), (1, .ref (a 7)), (2, .int p2), (3, .int p3)] := hl
  have hown : s.vm.findClass RX2 = some m.cls := hown
  refine lv_iload_n hx hb dX2_staysWarmByFilling_0 rfl (lv_at hl 3 rfl) ?_
  refine lv_if_lt (tgt := 9) hx hb dX2_staysWarmByFilling_1 (by decide) (fun c1 => ?_) (fun c1 => ?_)
  · replace h := ite_t h c1
    refine lv_iconst (v := 0) hx hb dX2_staysWarmByFilling_9 (by decide) ?_
    obtain rfl := Option.some.inj h
    exact g_zret hx hb hr (by decide) hK hP hD hS hQ dX2_staysWarmByFilling_10
  · replace h := ite_f h c1
    refine lv_iload_n hx hb dX2_staysWarmByFilling_4 rfl (lv_at hl 3 rfl) ?_
    refine lv_iconst (v := 4) hx hb dX2_staysWarmByFilling_5 (by decide) ?_
    refine lv_icmp_lt (tgt := 11) hx hb dX2_staysWarmByFilling_6 (by decide) (fun c2 => ?_) (fun c2 => ?_)
    · replace h := ite_t h c2
      refine lv_iload_n hx hb dX2_staysWarmByFilling_11 rfl (lv_at hl 3 rfl) ?_
      refine lv_bipush (v := 6) hx hb dX2_staysWarmByFilling_12 (by decide) ?_
      refine lv_imul hx hb dX2_staysWarmByFilling_14 ?_
      refine lv_istore (lv' := [(4, .int (p3 * 6)), (0, .ref (a 23)), (1, .ref (a 7)), (2, .int p2), (3, .int p3)]) hx hb dX2_staysWarmByFilling_15 hl (by decide) rfl (fun ls hl => ?_)
      refine lv_iconst (v := 0) hx hb dX2_staysWarmByFilling_17 (by decide) ?_
      refine lv_istore (lv' := [(5, .int 0), (4, .int (p3 * 6)), (0, .ref (a 23)), (1, .ref (a 7)), (2, .int p2), (3, .int p3)]) hx hb dX2_staysWarmByFilling_18 hl (by decide) rfl (fun ls hl => ?_)
      have lp20 : ∀ (x2 : Int32) (x4 : Int32) (k_20 : Int32 → (Nat → Nat → Int32) → Option (Int32 × (Nat → Nat → Int32))), (∀ (x5 : Int32) (A_20 : (Nat → Nat → Int32)), k_20 x5 A_20 = some res → g_At (dC, dI) p l e (headSpec wsX2_staysWarmByFilling rm_X2_staysWarmByFilling_C).room s m args below meth c Q (wC a cy I A T) sz 7 (wC a cy I A_20 T) [] 95 []) → ∀ (n_20 : Nat) (x5 : Int32) (A_20 : (Nat → Nat → Int32)), f_X2_staysWarmByFilling_C_L20 N k_20 x2 x4 I n_20 x5 A_20 = some res → g_At (dC, dI) p l e (headSpec wsX2_staysWarmByFilling rm_X2_staysWarmByFilling_C).room s m args below meth c Q (wC a cy I A T) sz 7 (wC a cy I A_20 T) [(0, .ref (a 23)), (1, .ref (a 7)), (2, .int x2), (4, .int x4), (5, .int x5)] 20 [] := by
        intro x2 x4 k_20 hk_20 n_20
        induction n_20 with
        | zero =>
          intro x5 A_20 h
          exact absurd h (by rw [f_X2_staysWarmByFilling_C_L20]; exact fun q => by cases q)
        | succ n_20 ih20 =>
          intro x5 A_20 h H locs hP hD hS ls hl
          rw [f_X2_staysWarmByFilling_C_L20] at h
          refine lv_iload hx hb dX2_staysWarmByFilling_20 (lv_at hl 4 rfl) ?_
          refine lv_aload_n hx hb dX2_staysWarmByFilling_22 rfl (lv_at hl 1 rfl) ?_
          refine va_get (D := (dC, dI)) (ci := 3) (v := .ref (a 8)) (C := RX3) (T := TX3) (N := 6) hx hb hts inX2_staysWarmByFilling_X3 hown hK hP 7 (eC_7 a cy I A_20 T) rfl 0 (by decide) (hts _ mX2_staysWarmByFilling_0) (fun _ h9 => h9) rfl dX2_staysWarmByFilling_23 ?_
          refine va_get (D := (dC, dI)) (ci := 6) (v := .int (I 13)) (C := RX6) (T := TX6) (N := 6) hx hb hts inX2_staysWarmByFilling_X6 hown hK hP 8 (eC_8 a cy I A_20 T) rfl 3 (by decide) (hts _ mX2_staysWarmByFilling_1) (fun _ h9 => h9) rfl dX2_staysWarmByFilling_26 ?_
          refine lv_icmp_ge (tgt := 95) hx hb dX2_staysWarmByFilling_29 (by decide) (fun c3 => ?_) (fun c3 => ?_)
          · replace h := ite_t h c3
            exact hk_20 _ _ h _ _ hP hD hS _ (lv_sub hl [] rfl)
          · replace h := ite_f h c3
            refine lv_aload_n hx hb dX2_staysWarmByFilling_32 rfl (lv_at hl 1 rfl) ?_
            refine lv_aload_n hx hb dX2_staysWarmByFilling_33 rfl (lv_at hl 0 rfl) ?_
            refine va_get (D := (dC, dI)) (ci := 2) (v := .ref (a 25)) (C := RX2) (T := TX2) (N := 2) hx hb hts inX2_staysWarmByFilling_X2 hown hK hP 23 (eC_23 a cy I A_20 T) rfl 1 (by decide) (hts _ mX2_staysWarmByFilling_2) (fun _ h9 => h9) rfl dX2_staysWarmByFilling_34 ?_
            refine lv_iload hx hb dX2_staysWarmByFilling_37 (lv_at hl 3 rfl) ?_
            refine lv_iload hx hb dX2_staysWarmByFilling_39 (lv_at hl 4 rfl) ?_
            refine lv_iadd hx hb dX2_staysWarmByFilling_41 ?_
            obtain ⟨i4, h⟩ := inb_some h
            refine g_iald (f := (A_20 15)) (j := ((x4 + x5)).toNatClampNeg) hx hb hK hP 25 (eC_25 a cy I A_20 T) i4 rfl dX2_staysWarmByFilling_42 ?_
            refine lv_iload hx hb dX2_staysWarmByFilling_43 (lv_at hl 4 rfl) ?_
            refine lv_iload_n hx hb dX2_staysWarmByFilling_45 rfl (lv_at hl 2 rfl) ?_
            refine lv_icmp_ne (tgt := 53) hx hb dX2_staysWarmByFilling_46 (by decide) (fun c5 => ?_) (fun c5 => ?_)
            · replace h := ite_f h c5
              refine lv_iconst (v := 0) hx hb dX2_staysWarmByFilling_53 (by decide) ?_
              obtain ⟨r6, hr6, h⟩ := bnd_some h
              refine g_callVi (As := [.int ((A_20 15) ((x4 + x5)).toNatClampNeg), .int 0]) (rest := []) (ci := 3) (q0 := 7) hx hb hml hown hts (c_X3_warmBy_C l dC dI a cy N I A_20 T ((A_20 15) ((x4 + x5)).toNatClampNeg) 0 r6 hr6) (cwV 2 hts gX2_staysWarmByFilling_X3_warmBy rfl rfl rfl (by decide +kernel) ⟨Nat.le_of_ble_eq_true rfl, Nat.le_of_ble_eq_true rfl⟩) hK hP hD hS hA rfl (eC_7 a cy I A_20 T) rfl rfl hl.1 rfl (Nat.le_of_ble_eq_true rfl) dX2_staysWarmByFilling_54 (fun H locs hP hD hS => ?_)
              refine lv_aload_n hx hb dX2_staysWarmByFilling_57 rfl (lv_at hl 0 rfl) ?_
              refine va_get (D := (dC, dI)) (ci := 2) (v := .ref (a 24)) (C := RX2) (T := TX2) (N := 2) hx hb hts inX2_staysWarmByFilling_X2 hown hK hP 23 (eC_23 a cy I A_20 T) rfl 0 (by decide) (hts _ mX2_staysWarmByFilling_3) (fun _ h9 => h9) rfl dX2_staysWarmByFilling_58 ?_
              refine lv_iload hx hb dX2_staysWarmByFilling_61 (lv_at hl 4 rfl) ?_
              obtain ⟨i7, h⟩ := inb_some h
              refine g_iald (f := (A_20 14)) (j := x5.toNatClampNeg) hx hb hK hP 24 (eC_24 a cy I A_20 T) i7 rfl dX2_staysWarmByFilling_63 ?_
              refine lv_isub hx hb dX2_staysWarmByFilling_64 ?_
              refine lv_istore (lv' := [(6, .int (r6 - ((A_20 14) x5.toNatClampNeg))), (0, .ref (a 23)), (1, .ref (a 7)), (2, .int x2), (4, .int x4), (5, .int x5)]) hx hb dX2_staysWarmByFilling_65 hl (by decide) rfl (fun ls hl => ?_)
              refine lv_iload hx hb dX2_staysWarmByFilling_67 (lv_at hl 0 rfl) ?_
              refine lv_if_gt (tgt := 74) hx hb dX2_staysWarmByFilling_69 (by decide) (fun c8 => ?_) (fun c8 => ?_)
              · replace h := ite_t h c8
                refine lv_aload_n hx hb dX2_staysWarmByFilling_74 rfl (lv_at hl 1 rfl) ?_
                refine va_get (D := (dC, dI)) (ci := 2) (v := .ref (a 25)) (C := RX2) (T := TX2) (N := 2) hx hb hts inX2_staysWarmByFilling_X2 hown hK hP 23 (eC_23 a cy I A_20 T) rfl 1 (by decide) (hts _ mX2_staysWarmByFilling_2) (fun _ h9 => h9) rfl dX2_staysWarmByFilling_75 ?_
                refine lv_iload hx hb dX2_staysWarmByFilling_78 (lv_at hl 4 rfl) ?_
                refine lv_bipush (v := 6) hx hb dX2_staysWarmByFilling_80 (by decide) ?_
                refine lv_iadd hx hb dX2_staysWarmByFilling_82 ?_
                refine lv_iload hx hb dX2_staysWarmByFilling_83 (lv_at hl 5 rfl) ?_
                refine lv_iadd hx hb dX2_staysWarmByFilling_85 ?_
                refine lv_iload hx hb dX2_staysWarmByFilling_86 (lv_at hl 0 rfl) ?_
                obtain ⟨i9, h⟩ := inb_some h
                refine g_iast (f := (A_20 15)) (j := (((x4 + 6) + x5)).toNatClampNeg) hx hb hK hP hD hS 25 (eC_25 a cy I A_20 T) i9 rfl dX2_staysWarmByFilling_88 (sC_25 a cy I A_20 T (upd (A_20 15) (((x4 + 6) + x5)).toNatClampNeg (r6 - ((A_20 14) x5.toNatClampNeg)))) (fun H locs hP hD hS => ?_)
                refine lv_iinc (v := (x5 + 1)) (lv' := [(5, .int (x5 + 1)), (6, .int (r6 - ((A_20 14) x5.toNatClampNeg))), (0, .ref (a 23)), (1, .ref (a 7)), (2, .int x2), (4, .int x4)]) hx hb dX2_staysWarmByFilling_89 hl (k := 5) rfl rfl (by decide) rfl (fun ls hl => ?_)
                refine lv_goto (tgt := 20) hx hb dX2_staysWarmByFilling_92 (by decide) ?_
                exact ih20 _ _ h _ _ hP hD hS _ (lv_sub hl [2, 3, 4, 5, 0] rfl)
              · replace h := ite_f h c8
                refine lv_iconst (v := 0) hx hb dX2_staysWarmByFilling_72 (by decide) ?_
                obtain rfl := Option.some.inj h
                exact g_zret hx hb hr (by decide) hK hP hD hS hQ dX2_staysWarmByFilling_73
            · replace h := ite_t h c5
              refine lv_iconst (v := 1) hx hb dX2_staysWarmByFilling_49 (by decide) ?_
              refine lv_goto (tgt := 54) hx hb dX2_staysWarmByFilling_50 (by decide) ?_
              obtain ⟨r10, hr10, h⟩ := bnd_some h
              refine g_callVi (As := [.int ((A_20 15) ((x4 + x5)).toNatClampNeg), .int 1]) (rest := []) (ci := 3) (q0 := 7) hx hb hml hown hts (c_X3_warmBy_C l dC dI a cy N I A_20 T ((A_20 15) ((x4 + x5)).toNatClampNeg) 1 r10 hr10) (cwV 2 hts gX2_staysWarmByFilling_X3_warmBy rfl rfl rfl (by decide +kernel) ⟨Nat.le_of_ble_eq_true rfl, Nat.le_of_ble_eq_true rfl⟩) hK hP hD hS hA rfl (eC_7 a cy I A_20 T) rfl rfl hl.1 rfl (Nat.le_of_ble_eq_true rfl) dX2_staysWarmByFilling_54 (fun H locs hP hD hS => ?_)
              refine lv_aload_n hx hb dX2_staysWarmByFilling_57 rfl (lv_at hl 0 rfl) ?_
              refine va_get (D := (dC, dI)) (ci := 2) (v := .ref (a 24)) (C := RX2) (T := TX2) (N := 2) hx hb hts inX2_staysWarmByFilling_X2 hown hK hP 23 (eC_23 a cy I A_20 T) rfl 0 (by decide) (hts _ mX2_staysWarmByFilling_3) (fun _ h9 => h9) rfl dX2_staysWarmByFilling_58 ?_
              refine lv_iload hx hb dX2_staysWarmByFilling_61 (lv_at hl 4 rfl) ?_
              obtain ⟨i11, h⟩ := inb_some h
              refine g_iald (f := (A_20 14)) (j := x5.toNatClampNeg) hx hb hK hP 24 (eC_24 a cy I A_20 T) i11 rfl dX2_staysWarmByFilling_63 ?_
              refine lv_isub hx hb dX2_staysWarmByFilling_64 ?_
              refine lv_istore (lv' := [(6, .int (r10 - ((A_20 14) x5.toNatClampNeg))), (0, .ref (a 23)), (1, .ref (a 7)), (2, .int x2), (4, .int x4), (5, .int x5)]) hx hb dX2_staysWarmByFilling_65 hl (by decide) rfl (fun ls hl => ?_)
              refine lv_iload hx hb dX2_staysWarmByFilling_67 (lv_at hl 0 rfl) ?_
              refine lv_if_gt (tgt := 74) hx hb dX2_staysWarmByFilling_69 (by decide) (fun c12 => ?_) (fun c12 => ?_)
              · replace h := ite_t h c12
                refine lv_aload_n hx hb dX2_staysWarmByFilling_74 rfl (lv_at hl 1 rfl) ?_
                refine va_get (D := (dC, dI)) (ci := 2) (v := .ref (a 25)) (C := RX2) (T := TX2) (N := 2) hx hb hts inX2_staysWarmByFilling_X2 hown hK hP 23 (eC_23 a cy I A_20 T) rfl 1 (by decide) (hts _ mX2_staysWarmByFilling_2) (fun _ h9 => h9) rfl dX2_staysWarmByFilling_75 ?_
                refine lv_iload hx hb dX2_staysWarmByFilling_78 (lv_at hl 4 rfl) ?_
                refine lv_bipush (v := 6) hx hb dX2_staysWarmByFilling_80 (by decide) ?_
                refine lv_iadd hx hb dX2_staysWarmByFilling_82 ?_
                refine lv_iload hx hb dX2_staysWarmByFilling_83 (lv_at hl 5 rfl) ?_
                refine lv_iadd hx hb dX2_staysWarmByFilling_85 ?_
                refine lv_iload hx hb dX2_staysWarmByFilling_86 (lv_at hl 0 rfl) ?_
                obtain ⟨i13, h⟩ := inb_some h
                refine g_iast (f := (A_20 15)) (j := (((x4 + 6) + x5)).toNatClampNeg) hx hb hK hP hD hS 25 (eC_25 a cy I A_20 T) i13 rfl dX2_staysWarmByFilling_88 (sC_25 a cy I A_20 T (upd (A_20 15) (((x4 + 6) + x5)).toNatClampNeg (r10 - ((A_20 14) x5.toNatClampNeg)))) (fun H locs hP hD hS => ?_)
                refine lv_iinc (v := (x5 + 1)) (lv' := [(5, .int (x5 + 1)), (6, .int (r10 - ((A_20 14) x5.toNatClampNeg))), (0, .ref (a 23)), (1, .ref (a 7)), (2, .int x2), (4, .int x4)]) hx hb dX2_staysWarmByFilling_89 hl (k := 5) rfl rfl (by decide) rfl (fun ls hl => ?_)
                refine lv_goto (tgt := 20) hx hb dX2_staysWarmByFilling_92 (by decide) ?_
                exact ih20 _ _ h _ _ hP hD hS _ (lv_sub hl [2, 3, 4, 5, 0] rfl)
              · replace h := ite_f h c12
                refine lv_iconst (v := 0) hx hb dX2_staysWarmByFilling_72 (by decide) ?_
                obtain rfl := Option.some.inj h
                exact g_zret hx hb hr (by decide) hK hP hD hS hQ dX2_staysWarmByFilling_73
      refine lp20 _ _ _ ?_ N _ _ h _ _ hP hD hS _ (lv_sub hl [2, 3, 4, 1, 0] rfl)
      intro x5 A_20 h H locs hP hD hS ls hl
      refine lv_iconst (v := 1) hx hb dX2_staysWarmByFilling_95 (by decide) ?_
      obtain rfl := Option.some.inj h
      exact g_zret hx hb hr (by decide) hK hP hD hS hQ dX2_staysWarmByFilling_96
    · replace h := ite_f h c2
      refine lv_iconst (v := 0) hx hb dX2_staysWarmByFilling_9 (by decide) ?_
      obtain rfl := Option.some.inj h
      exact g_zret hx hb hr (by decide) hK hP hD hS hQ dX2_staysWarmByFilling_10
