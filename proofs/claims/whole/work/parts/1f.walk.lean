theorem inX2_staysWarmByFilling_X2 : ∀ w ∈ u_ws RX2 TX2 3, w ∈ wsX2_staysWarmByFilling := by decide +kernel
theorem mX2_staysWarmByFilling_0 : Cond.fieldLink RX2 18 "WarmBottles$Keeping" "night" "LWarmBottles$Night;" ∈ wsX2_staysWarmByFilling := List.mem_of_getElem? (i := 1) rfl
theorem inX2_staysWarmByFilling_X3 : ∀ w ∈ u_ws RX3 TX3 6, w ∈ wsX2_staysWarmByFilling := by decide +kernel
theorem mX2_staysWarmByFilling_1 : Cond.fieldLink RX2 39 "WarmBottles$Night" "told" "LWarmBottles$Told;" ∈ wsX2_staysWarmByFilling := List.mem_of_getElem? (i := 2) rfl
theorem inX2_staysWarmByFilling_X6 : ∀ w ∈ u_ws RX6 TX6 6, w ∈ wsX2_staysWarmByFilling := by decide +kernel
theorem mX2_staysWarmByFilling_2 : Cond.fieldLink RX2 43 "WarmBottles$Told" "bottles" "I" ∈ wsX2_staysWarmByFilling := List.mem_of_getElem? (i := 3) rfl
theorem mX2_staysWarmByFilling_3 : Cond.fieldLink RX2 15 "WarmBottles$Keeping" "warm" "[I" ∈ wsX2_staysWarmByFilling := List.mem_of_getElem? (i := 4) rfl
theorem mX2_staysWarmByFilling_4 : Cond.fieldLink RX2 9 "WarmBottles$Keeping" "loss" "[I" ∈ wsX2_staysWarmByFilling := List.mem_of_getElem? (i := 5) rfl
def rm_X2_staysWarmByFilling_C : Room := { frames := 5, cells := 0, slots := 0, locals := 270 }
def f_X2_staysWarmByFilling_C_L19 (N : Nat) (k_19 : Int32 → (Nat → Nat → Int32) → Option (Int32 × (Nat → Nat → Int32))) (x1 : Int32) (x3 : Int32) (I : (Nat → Int32)) : Nat → Int32 → (Nat → Nat → Int32) → Option (Int32 × (Nat → Nat → Int32))
  | 0, _, _ => none
  | n_19 + 1, x4, A_19 => (if (I 13) ≤ x4 then (k_19 x4 A_19) else (if (x3 + x4) < 0 ∨ 30 ≤ ((x3 + x4)).toNatClampNeg then none else (if x4 = x1 then (Option.bind (f_X3_warmBy_C N I A_19 ((A_19 15) ((x3 + x4)).toNatClampNeg) 1) (fun r10 => (if x4 < 0 ∨ 6 ≤ x4.toNatClampNeg then none else (if 0 < (r10 - ((A_19 14) x4.toNatClampNeg)) then (if ((x3 + 6) + x4) < 0 ∨ 30 ≤ (((x3 + 6) + x4)).toNatClampNeg then none else (f_X2_staysWarmByFilling_C_L19 N k_19 x1 x3 I n_19 (x4 + 1) (va_up A_19 15 (upd (A_19 15) (((x3 + 6) + x4)).toNatClampNeg (r10 - ((A_19 14) x4.toNatClampNeg)))))) else some (0, A_19))))) else (Option.bind (f_X3_warmBy_C N I A_19 ((A_19 15) ((x3 + x4)).toNatClampNeg) 0) (fun r6 => (if x4 < 0 ∨ 6 ≤ x4.toNatClampNeg then none else (if 0 < (r6 - ((A_19 14) x4.toNatClampNeg)) then (if ((x3 + 6) + x4) < 0 ∨ 30 ≤ (((x3 + 6) + x4)).toNatClampNeg then none else (f_X2_staysWarmByFilling_C_L19 N k_19 x1 x3 I n_19 (x4 + 1) (va_up A_19 15 (upd (A_19 15) (((x3 + 6) + x4)).toNatClampNeg (r6 - ((A_19 14) x4.toNatClampNeg)))))) else some (0, A_19))))))))
def f_X2_staysWarmByFilling_C (N : Nat) (I : Nat → Int32) (A : Nat → Nat → Int32) (p1 : Int32) (p2 : Int32) : Option (Int32 × (Nat → Nat → Int32)) := (if p2 < 0 then some (0, A) else (if p2 < 4 then (f_X2_staysWarmByFilling_C_L19 N (fun (x4 : Int32) (A_19 : (Nat → Nat → Int32)) => some (1, A_19)) p1 (p2 * 6) I N 0 A) else some (0, A)))
set_option maxHeartbeats 4000000 in
set_option maxRecDepth 100000 in
theorem c_X2_staysWarmByFilling_C (l : Launch) (dC : Nat → ClassId) (dI : Nat → Nat → Nat) (a : Nat → Nat) (cy : Nat → ClassId) (N : Nat) (I : Nat → Int32) (A : Nat → Nat → Int32) (T : Int64) (p1 : Int32) (p2 : Int32) (res : Int32 × (Nat → Nat → Int32)) (h : f_X2_staysWarmByFilling_C N I A p1 p2 = some res) (sz : Nat) : Met l yX2_staysWarmByFilling wsX2_staysWarmByFilling rm_X2_staysWarmByFilling_C (g_Pre (dC, dI) cy [.ref (a 23), .int p1, .int p2] (wC a cy I A T) sz) (g_Qi (dC, dI) cy res.1 (wC a cy I A T) (wC a cy I res.2 T) sz) 0 0 (va_A (wC a cy I A T) sz) := by
  unfold f_X2_staysWarmByFilling_C at h
  refine g_entry _ _ _ _ _ _ (cc := cX2_staysWarmByFilling) (maxL := 6) (ret := (some .boolean)) (by decide) rfl (Nat.le_of_ble_eq_true rfl) ?_
  intro p e s m args below meth c ls hx hb hml hown hts hr hlocks hA hK hP hD hS hl Q hQ
  have hl : lv_has ls 6 [(0, .ref (a 23)), (1, .int p1), (2, .int p2)] := hl
  have hown : s.vm.findClass RX2 = some m.cls := hown
  refine lv_iload_n hx hb dX2_staysWarmByFilling_0 rfl (lv_at hl 2 rfl) ?_
  refine lv_if_lt (tgt := 9) hx hb dX2_staysWarmByFilling_1 (by decide) (fun c1 => ?_) (fun c1 => ?_)
  · replace h := ite_t h c1
    refine lv_iconst (v := 0) hx hb dX2_staysWarmByFilling_9 (by decide) ?_
    cases h
    exact g_zret hx hb hr (by decide) hK hP hD hS hQ dX2_staysWarmByFilling_10
  · replace h := ite_f h c1
    refine lv_iload_n hx hb dX2_staysWarmByFilling_4 rfl (lv_at hl 2 rfl) ?_
    refine lv_iconst (v := 4) hx hb dX2_staysWarmByFilling_5 (by decide) ?_
    refine lv_icmp_lt (tgt := 11) hx hb dX2_staysWarmByFilling_6 (by decide) (fun c2 => ?_) (fun c2 => ?_)
    · replace h := ite_t h c2
      refine lv_iload_n hx hb dX2_staysWarmByFilling_11 rfl (lv_at hl 2 rfl) ?_
      refine lv_bipush (v := 6) hx hb dX2_staysWarmByFilling_12 (by decide) ?_
      refine lv_imul hx hb dX2_staysWarmByFilling_14 ?_
      refine lv_istore_n (lv' := [(3, .int (p2 * 6)), (0, .ref (a 23)), (1, .int p1), (2, .int p2)]) hx hb dX2_staysWarmByFilling_15 rfl hl (by decide) rfl (fun ls hl => ?_)
      refine lv_iconst (v := 0) hx hb dX2_staysWarmByFilling_16 (by decide) ?_
      refine lv_istore (lv' := [(4, .int 0), (3, .int (p2 * 6)), (0, .ref (a 23)), (1, .int p1), (2, .int p2)]) hx hb dX2_staysWarmByFilling_17 hl (by decide) rfl (fun ls hl => ?_)
      have lp19 : ∀ (x1 : Int32) (x3 : Int32) (k_19 : Int32 → (Nat → Nat → Int32) → Option (Int32 × (Nat → Nat → Int32))), (∀ (x4 : Int32) (A_19 : (Nat → Nat → Int32)), k_19 x4 A_19 = some res → g_At (dC, dI) p l e (headSpec wsX2_staysWarmByFilling rm_X2_staysWarmByFilling_C).room s m args below meth c Q (wC a cy I A T) sz 6 (wC a cy I A_19 T) [] 98 []) → ∀ (n_19 : Nat) (x4 : Int32) (A_19 : (Nat → Nat → Int32)), f_X2_staysWarmByFilling_C_L19 N k_19 x1 x3 I n_19 x4 A_19 = some res → g_At (dC, dI) p l e (headSpec wsX2_staysWarmByFilling rm_X2_staysWarmByFilling_C).room s m args below meth c Q (wC a cy I A T) sz 6 (wC a cy I A_19 T) [(0, .ref (a 23)), (1, .int x1), (3, .int x3), (4, .int x4)] 19 [] := by
        intro x1 x3 k_19 hk_19 n_19
        induction n_19 with
        | zero =>
          intro x4 A_19 h
          exact absurd h (by rw [f_X2_staysWarmByFilling_C_L19]; exact fun q => by cases q)
        | succ n_19 ih19 =>
          intro x4 A_19 h H locs hP hD hS ls hl
          rw [f_X2_staysWarmByFilling_C_L19] at h
          refine lv_iload hx hb dX2_staysWarmByFilling_19 (lv_at hl 3 rfl) ?_
          refine lv_aload_n hx hb dX2_staysWarmByFilling_21 rfl (lv_at hl 0 rfl) ?_
          refine va_get (D := (dC, dI)) (ci := 2) (v := .ref (a 7)) (C := RX2) (T := TX2) (N := 3) hx hb hts inX2_staysWarmByFilling_X2 hown hK hP 23 (eC_23 a cy I A_19 T) rfl 0 (by decide) (hts _ mX2_staysWarmByFilling_0) (fun _ h9 => h9) rfl dX2_staysWarmByFilling_22 ?_
          refine va_get (D := (dC, dI)) (ci := 3) (v := .ref (a 8)) (C := RX3) (T := TX3) (N := 6) hx hb hts inX2_staysWarmByFilling_X3 hown hK hP 7 (eC_7 a cy I A_19 T) rfl 0 (by decide) (hts _ mX2_staysWarmByFilling_1) (fun _ h9 => h9) rfl dX2_staysWarmByFilling_25 ?_
          refine va_get (D := (dC, dI)) (ci := 6) (v := .int (I 13)) (C := RX6) (T := TX6) (N := 6) hx hb hts inX2_staysWarmByFilling_X6 hown hK hP 8 (eC_8 a cy I A_19 T) rfl 3 (by decide) (hts _ mX2_staysWarmByFilling_2) (fun _ h9 => h9) rfl dX2_staysWarmByFilling_28 ?_
          refine lv_icmp_ge (tgt := 98) hx hb dX2_staysWarmByFilling_31 (by decide) (fun c3 => ?_) (fun c3 => ?_)
          · replace h := ite_t h c3
            exact hk_19 _ _ h _ _ hP hD hS _ (lv_sub hl [] rfl)
          · replace h := ite_f h c3
            refine lv_aload_n hx hb dX2_staysWarmByFilling_34 rfl (lv_at hl 0 rfl) ?_
            refine va_get (D := (dC, dI)) (ci := 2) (v := .ref (a 7)) (C := RX2) (T := TX2) (N := 3) hx hb hts inX2_staysWarmByFilling_X2 hown hK hP 23 (eC_23 a cy I A_19 T) rfl 0 (by decide) (hts _ mX2_staysWarmByFilling_0) (fun _ h9 => h9) rfl dX2_staysWarmByFilling_35 ?_
            refine lv_aload_n hx hb dX2_staysWarmByFilling_38 rfl (lv_at hl 0 rfl) ?_
            refine va_get (D := (dC, dI)) (ci := 2) (v := .ref (a 25)) (C := RX2) (T := TX2) (N := 3) hx hb hts inX2_staysWarmByFilling_X2 hown hK hP 23 (eC_23 a cy I A_19 T) rfl 2 (by decide) (hts _ mX2_staysWarmByFilling_3) (fun _ h9 => h9) rfl dX2_staysWarmByFilling_39 ?_
            refine lv_iload_n hx hb dX2_staysWarmByFilling_42 rfl (lv_at hl 2 rfl) ?_
            refine lv_iload hx hb dX2_staysWarmByFilling_43 (lv_at hl 3 rfl) ?_
            refine lv_iadd hx hb dX2_staysWarmByFilling_45 ?_
            obtain ⟨i4, h⟩ := inb_some h
            refine g_iald (f := (A_19 15)) (j := ((x3 + x4)).toNatClampNeg) hx hb hK hP 25 (eC_25 a cy I A_19 T) i4 rfl dX2_staysWarmByFilling_46 ?_
            refine lv_iload hx hb dX2_staysWarmByFilling_47 (lv_at hl 3 rfl) ?_
            refine lv_iload_n hx hb dX2_staysWarmByFilling_49 rfl (lv_at hl 1 rfl) ?_
            refine lv_icmp_ne (tgt := 57) hx hb dX2_staysWarmByFilling_50 (by decide) (fun c5 => ?_) (fun c5 => ?_)
            · replace h := ite_f h c5
              refine lv_iconst (v := 0) hx hb dX2_staysWarmByFilling_57 (by decide) ?_
              obtain ⟨r6, hr6, h⟩ := bnd_some h
              refine g_callVi (As := [.int ((A_19 15) ((x3 + x4)).toNatClampNeg), .int 0]) (rest := []) (ci := 3) (q0 := 7) hx hb hml hown hts (c_X3_warmBy_C l dC dI a cy N I A_19 T ((A_19 15) ((x3 + x4)).toNatClampNeg) 0 r6 hr6) (cwV 2 hts gX2_staysWarmByFilling_X3_warmBy rfl rfl rfl (by decide +kernel) ⟨Nat.le_of_ble_eq_true rfl, Nat.le_of_ble_eq_true rfl⟩) hK hP hD hS hA rfl (eC_7 a cy I A_19 T) rfl rfl hl.1 rfl (Nat.le_of_ble_eq_true rfl) dX2_staysWarmByFilling_58 (fun H locs hP hD hS => ?_)
              refine lv_aload_n hx hb dX2_staysWarmByFilling_61 rfl (lv_at hl 0 rfl) ?_
              refine va_get (D := (dC, dI)) (ci := 2) (v := .ref (a 24)) (C := RX2) (T := TX2) (N := 3) hx hb hts inX2_staysWarmByFilling_X2 hown hK hP 23 (eC_23 a cy I A_19 T) rfl 1 (by decide) (hts _ mX2_staysWarmByFilling_4) (fun _ h9 => h9) rfl dX2_staysWarmByFilling_62 ?_
              refine lv_iload hx hb dX2_staysWarmByFilling_65 (lv_at hl 3 rfl) ?_
              obtain ⟨i7, h⟩ := inb_some h
              refine g_iald (f := (A_19 14)) (j := x4.toNatClampNeg) hx hb hK hP 24 (eC_24 a cy I A_19 T) i7 rfl dX2_staysWarmByFilling_67 ?_
              refine lv_isub hx hb dX2_staysWarmByFilling_68 ?_
              refine lv_istore (lv' := [(5, .int (r6 - ((A_19 14) x4.toNatClampNeg))), (0, .ref (a 23)), (1, .int x1), (3, .int x3), (4, .int x4)]) hx hb dX2_staysWarmByFilling_69 hl (by decide) rfl (fun ls hl => ?_)
              refine lv_iload hx hb dX2_staysWarmByFilling_71 (lv_at hl 0 rfl) ?_
              refine lv_if_gt (tgt := 78) hx hb dX2_staysWarmByFilling_73 (by decide) (fun c8 => ?_) (fun c8 => ?_)
              · replace h := ite_t h c8
                refine lv_aload_n hx hb dX2_staysWarmByFilling_78 rfl (lv_at hl 1 rfl) ?_
                refine va_get (D := (dC, dI)) (ci := 2) (v := .ref (a 25)) (C := RX2) (T := TX2) (N := 3) hx hb hts inX2_staysWarmByFilling_X2 hown hK hP 23 (eC_23 a cy I A_19 T) rfl 2 (by decide) (hts _ mX2_staysWarmByFilling_3) (fun _ h9 => h9) rfl dX2_staysWarmByFilling_79 ?_
                refine lv_iload_n hx hb dX2_staysWarmByFilling_82 rfl (lv_at hl 3 rfl) ?_
                refine lv_bipush (v := 6) hx hb dX2_staysWarmByFilling_83 (by decide) ?_
                refine lv_iadd hx hb dX2_staysWarmByFilling_85 ?_
                refine lv_iload hx hb dX2_staysWarmByFilling_86 (lv_at hl 4 rfl) ?_
                refine lv_iadd hx hb dX2_staysWarmByFilling_88 ?_
                refine lv_iload hx hb dX2_staysWarmByFilling_89 (lv_at hl 0 rfl) ?_
                obtain ⟨i9, h⟩ := inb_some h
                refine g_iast (f := (A_19 15)) (j := (((x3 + 6) + x4)).toNatClampNeg) hx hb hK hP hD hS 25 (eC_25 a cy I A_19 T) i9 rfl dX2_staysWarmByFilling_91 (sC_25 a cy I A_19 T (upd (A_19 15) (((x3 + 6) + x4)).toNatClampNeg (r6 - ((A_19 14) x4.toNatClampNeg)))) (fun H locs hP hD hS => ?_)
                refine lv_iinc (v := (x4 + 1)) (lv' := [(4, .int (x4 + 1)), (5, .int (r6 - ((A_19 14) x4.toNatClampNeg))), (0, .ref (a 23)), (1, .int x1), (3, .int x3)]) hx hb dX2_staysWarmByFilling_92 hl (k := 4) rfl rfl (by decide) rfl (fun ls hl => ?_)
                refine lv_goto (tgt := 19) hx hb dX2_staysWarmByFilling_95 (by decide) ?_
                exact ih19 _ _ h _ _ hP hD hS _ (lv_sub hl [2, 3, 4, 0] rfl)
              · replace h := ite_f h c8
                refine lv_iconst (v := 0) hx hb dX2_staysWarmByFilling_76 (by decide) ?_
                cases h
                exact g_zret hx hb hr (by decide) hK hP hD hS hQ dX2_staysWarmByFilling_77
            · replace h := ite_t h c5
              refine lv_iconst (v := 1) hx hb dX2_staysWarmByFilling_53 (by decide) ?_
              refine lv_goto (tgt := 58) hx hb dX2_staysWarmByFilling_54 (by decide) ?_
              obtain ⟨r10, hr10, h⟩ := bnd_some h
              refine g_callVi (As := [.int ((A_19 15) ((x3 + x4)).toNatClampNeg), .int 1]) (rest := []) (ci := 3) (q0 := 7) hx hb hml hown hts (c_X3_warmBy_C l dC dI a cy N I A_19 T ((A_19 15) ((x3 + x4)).toNatClampNeg) 1 r10 hr10) (cwV 2 hts gX2_staysWarmByFilling_X3_warmBy rfl rfl rfl (by decide +kernel) ⟨Nat.le_of_ble_eq_true rfl, Nat.le_of_ble_eq_true rfl⟩) hK hP hD hS hA rfl (eC_7 a cy I A_19 T) rfl rfl hl.1 rfl (Nat.le_of_ble_eq_true rfl) dX2_staysWarmByFilling_58 (fun H locs hP hD hS => ?_)
              refine lv_aload_n hx hb dX2_staysWarmByFilling_61 rfl (lv_at hl 0 rfl) ?_
              refine va_get (D := (dC, dI)) (ci := 2) (v := .ref (a 24)) (C := RX2) (T := TX2) (N := 3) hx hb hts inX2_staysWarmByFilling_X2 hown hK hP 23 (eC_23 a cy I A_19 T) rfl 1 (by decide) (hts _ mX2_staysWarmByFilling_4) (fun _ h9 => h9) rfl dX2_staysWarmByFilling_62 ?_
              refine lv_iload hx hb dX2_staysWarmByFilling_65 (lv_at hl 3 rfl) ?_
              obtain ⟨i11, h⟩ := inb_some h
              refine g_iald (f := (A_19 14)) (j := x4.toNatClampNeg) hx hb hK hP 24 (eC_24 a cy I A_19 T) i11 rfl dX2_staysWarmByFilling_67 ?_
              refine lv_isub hx hb dX2_staysWarmByFilling_68 ?_
              refine lv_istore (lv' := [(5, .int (r10 - ((A_19 14) x4.toNatClampNeg))), (0, .ref (a 23)), (1, .int x1), (3, .int x3), (4, .int x4)]) hx hb dX2_staysWarmByFilling_69 hl (by decide) rfl (fun ls hl => ?_)
              refine lv_iload hx hb dX2_staysWarmByFilling_71 (lv_at hl 0 rfl) ?_
              refine lv_if_gt (tgt := 78) hx hb dX2_staysWarmByFilling_73 (by decide) (fun c12 => ?_) (fun c12 => ?_)
              · replace h := ite_t h c12
                refine lv_aload_n hx hb dX2_staysWarmByFilling_78 rfl (lv_at hl 1 rfl) ?_
                refine va_get (D := (dC, dI)) (ci := 2) (v := .ref (a 25)) (C := RX2) (T := TX2) (N := 3) hx hb hts inX2_staysWarmByFilling_X2 hown hK hP 23 (eC_23 a cy I A_19 T) rfl 2 (by decide) (hts _ mX2_staysWarmByFilling_3) (fun _ h9 => h9) rfl dX2_staysWarmByFilling_79 ?_
                refine lv_iload_n hx hb dX2_staysWarmByFilling_82 rfl (lv_at hl 3 rfl) ?_
                refine lv_bipush (v := 6) hx hb dX2_staysWarmByFilling_83 (by decide) ?_
                refine lv_iadd hx hb dX2_staysWarmByFilling_85 ?_
                refine lv_iload hx hb dX2_staysWarmByFilling_86 (lv_at hl 4 rfl) ?_
                refine lv_iadd hx hb dX2_staysWarmByFilling_88 ?_
                refine lv_iload hx hb dX2_staysWarmByFilling_89 (lv_at hl 0 rfl) ?_
                obtain ⟨i13, h⟩ := inb_some h
                refine g_iast (f := (A_19 15)) (j := (((x3 + 6) + x4)).toNatClampNeg) hx hb hK hP hD hS 25 (eC_25 a cy I A_19 T) i13 rfl dX2_staysWarmByFilling_91 (sC_25 a cy I A_19 T (upd (A_19 15) (((x3 + 6) + x4)).toNatClampNeg (r10 - ((A_19 14) x4.toNatClampNeg)))) (fun H locs hP hD hS => ?_)
                refine lv_iinc (v := (x4 + 1)) (lv' := [(4, .int (x4 + 1)), (5, .int (r10 - ((A_19 14) x4.toNatClampNeg))), (0, .ref (a 23)), (1, .int x1), (3, .int x3)]) hx hb dX2_staysWarmByFilling_92 hl (k := 4) rfl rfl (by decide) rfl (fun ls hl => ?_)
                refine lv_goto (tgt := 19) hx hb dX2_staysWarmByFilling_95 (by decide) ?_
                exact ih19 _ _ h _ _ hP hD hS _ (lv_sub hl [2, 3, 4, 0] rfl)
              · replace h := ite_f h c12
                refine lv_iconst (v := 0) hx hb dX2_staysWarmByFilling_76 (by decide) ?_
                cases h
                exact g_zret hx hb hr (by decide) hK hP hD hS hQ dX2_staysWarmByFilling_77
      refine lp19 _ _ _ ?_ N _ _ h _ _ hP hD hS _ (lv_sub hl [2, 3, 1, 0] rfl)
      intro x4 A_19 h H locs hP hD hS ls hl
      refine lv_iconst (v := 1) hx hb dX2_staysWarmByFilling_98 (by decide) ?_
      cases h
      exact g_zret hx hb hr (by decide) hK hP hD hS hQ dX2_staysWarmByFilling_99
    · replace h := ite_f h c2
      refine lv_iconst (v := 0) hx hb dX2_staysWarmByFilling_9 (by decide) ?_
      cases h
      exact g_zret hx hb hr (by decide) hK hP hD hS hQ dX2_staysWarmByFilling_10
def rm_X2_mostByFilling_C (d : Nat) : Room := { frames := 8 * d + 12, cells := 0, slots := 0, locals := 400 * d + 600 }
def f_X2_mostByFilling_C (N : Nat) (mf : (Nat → Int32) → (Nat → Nat → Int32) → Int32 → Int32 → Option (Int32 × (Nat → Nat → Int32))) (I : Nat → Int32) (A : Nat → Nat → Int32) (p1 : Int32) (p2 : Int32) (p3 : Int32) : Option (Int32 × (Nat → Nat → Int32)) := (if p1 = 6 then (if p3 < 0 then some (p2, A) else (Option.bind (f_X2_staysWarmByFilling_C N I A p1 p2) (fun r7 => (if r7.1 = 0 then some (p2, r7.2) else (Option.bind (mf I r7.2 (p2 + 1) (p3 - 0)) (fun r9 => some (r9.1, r9.2))))))) else (if p3 < 1 then some (p2, A) else (Option.bind (f_X2_staysWarmByFilling_C N I A p1 p2) (fun r3 => (if r3.1 = 0 then some (p2, r3.2) else (Option.bind (mf I r3.2 (p2 + 1) (p3 - 1)) (fun r5 => some (r5.1, r5.2))))))))
set_option maxHeartbeats 4000000 in
set_option maxRecDepth 100000 in
theorem c_X2_mostByFilling_C (l : Launch) (dC : Nat → ClassId) (dI : Nat → Nat → Nat) (a : Nat → Nat) (cy : Nat → ClassId) (N : Nat) (mf : (Nat → Int32) → (Nat → Nat → Int32) → Int32 → Int32 → Option (Int32 × (Nat → Nat → Int32))) (d : Nat) (hmf : ∀ (I : Nat → Int32) (A : Nat → Nat → Int32) (T : Int64) (p1 p2 : Int32) (res : Int32 × (Nat → Nat → Int32)), mf I A p1 p2 = some res → ∀ sz : Nat, Met l yX2_mostFrom wsX2_mostFrom (rm_X2_mostFrom_C d) (g_Pre (dC, dI) cy [.ref (a 23), .int p1, .int p2] (wC a cy I A T) sz) (g_Qi (dC, dI) cy res.1 (wC a cy I A T) (wC a cy I res.2 T) sz) 0 0 (va_A (wC a cy I A T) sz)) (I : Nat → Int32) (A : Nat → Nat → Int32) (T : Int64) (p1 : Int32) (p2 : Int32) (p3 : Int32) (res : Int32 × (Nat → Nat → Int32)) (h : f_X2_mostByFilling_C N mf I A p1 p2 p3 = some res) (sz : Nat) : Met l yX2_mostByFilling wsX2_mostByFilling (rm_X2_mostByFilling_C d) (g_Pre (dC, dI) cy [.ref (a 23), .int p1, .int p2, .int p3] (wC a cy I A T) sz) (g_Qi (dC, dI) cy res.1 (wC a cy I A T) (wC a cy I res.2 T) sz) 0 0 (va_A (wC a cy I A T) sz) := by
  unfold f_X2_mostByFilling_C at h
  refine g_entry _ _ _ _ _ _ (cc := cX2_mostByFilling) (maxL := 5) (ret := (some .int)) (by decide) rfl (Nat.le_of_ble_eq_true rfl) ?_
  intro p e s m args below meth c ls hx hb hml hown hts hr hlocks hA hK hP hD hS hl Q hQ
  have hl : lv_has ls 5 [(0, .ref (a 23)), (1, .int p1), (2, .int p2), (3, .int p3)] := hl
  have hown : s.vm.findClass RX2 = some m.cls := hown
  refine lv_iload_n hx hb dX2_mostByFilling_0 rfl (lv_at hl 1 rfl) ?_
  refine lv_bipush (v := 6) hx hb dX2_mostByFilling_1 (by decide) ?_
  refine lv_icmp_ne (tgt := 10) hx hb dX2_mostByFilling_3 (by decide) (fun c1 => ?_) (fun c1 => ?_)
  · replace h := ite_f h c1
    refine lv_iconst (v := 1) hx hb dX2_mostByFilling_10 (by decide) ?_
    refine lv_istore (lv' := [(4, .int 1), (0, .ref (a 23)), (1, .int p1), (2, .int p2), (3, .int p3)]) hx hb dX2_mostByFilling_11 hl (by decide) rfl (fun ls hl => ?_)
    refine lv_iload_n hx hb dX2_mostByFilling_13 rfl (lv_at hl 4 rfl) ?_
    refine lv_iload hx hb dX2_mostByFilling_14 (lv_at hl 0 rfl) ?_
    refine lv_icmp_lt (tgt := 28) hx hb dX2_mostByFilling_16 (by decide) (fun c2 => ?_) (fun c2 => ?_)
    · replace h := ite_t h c2
      refine lv_iload_n hx hb dX2_mostByFilling_28 rfl (lv_at hl 3 rfl) ?_
      cases h
      exact g_iret hx hb hr hK hP hD hS hQ dX2_mostByFilling_29
    · replace h := ite_f h c2
      refine lv_aload_n hx hb dX2_mostByFilling_19 rfl (lv_at hl 1 rfl) ?_
      refine lv_iload_n hx hb dX2_mostByFilling_20 rfl (lv_at hl 2 rfl) ?_
      refine lv_iload_n hx hb dX2_mostByFilling_21 rfl (lv_at hl 3 rfl) ?_
      obtain ⟨r3, hr3, h⟩ := bnd_some h
      refine g_callVi (As := [.int p1, .int p2]) (rest := []) (ci := 2) (q0 := 23) hx hb hml hown hts (c_X2_staysWarmByFilling_C l dC dI a cy N I A T p1 p2 r3 hr3) (cwV 2 hts gX2_mostByFilling_X2_staysWarmByFilling rfl rfl rfl (by decide +kernel) ⟨by show _ + 1 ≤ _; simp only [rm_X2_staysWarmByFilling_C, rm_X2_mostByFilling_C, headSpec]; omega, by show 8 + (_ + 11) + _ ≤ _; simp only [rm_X2_staysWarmByFilling_C, rm_X2_mostByFilling_C, headSpec]; omega⟩) hK hP hD hS hA rfl (eC_23 a cy I A T) rfl rfl hl.1 rfl (Nat.le_of_ble_eq_true rfl) dX2_mostByFilling_22 (fun H locs hP hD hS => ?_)
      refine lv_if_ne (tgt := 30) hx hb dX2_mostByFilling_25 (by decide) (fun c4 => ?_) (fun c4 => ?_)
      · replace h := ite_f h c4
        refine lv_aload_n hx hb dX2_mostByFilling_30 rfl (lv_at hl 1 rfl) ?_
        refine lv_iload_n hx hb dX2_mostByFilling_31 rfl (lv_at hl 3 rfl) ?_
        refine lv_iconst (v := 1) hx hb dX2_mostByFilling_32 (by decide) ?_
        refine lv_iadd hx hb dX2_mostByFilling_33 ?_
        refine lv_iload_n hx hb dX2_mostByFilling_34 rfl (lv_at hl 4 rfl) ?_
        refine lv_iload hx hb dX2_mostByFilling_35 (lv_at hl 0 rfl) ?_
        refine lv_isub hx hb dX2_mostByFilling_37 ?_
        obtain ⟨r5, hr5, h⟩ := bnd_some h
        refine g_callVi (As := [.int (p2 + 1), .int (p3 - 1)]) (rest := []) (ci := 2) (q0 := 23) hx hb hml hown hts (hmf I r3.2 T (p2 + 1) (p3 - 1) r5 hr5) (cwV 2 hts gX2_mostByFilling_X2_mostFrom rfl rfl rfl (by decide +kernel) ⟨by show _ + 1 ≤ _; simp only [rm_X2_mostFrom_C, rm_X2_mostByFilling_C, headSpec]; omega, by show 8 + (_ + 11) + _ ≤ _; simp only [rm_X2_mostFrom_C, rm_X2_mostByFilling_C, headSpec]; omega⟩) hK hP hD hS hA rfl (eC_23 a cy I r3.2 T) rfl rfl hl.1 rfl (Nat.le_of_ble_eq_true rfl) dX2_mostByFilling_38 (fun H locs hP hD hS => ?_)
        cases h
        exact g_iret hx hb hr hK hP hD hS hQ dX2_mostByFilling_41
      · replace h := ite_t h c4
        refine lv_iload_n hx hb dX2_mostByFilling_28 rfl (lv_at hl 3 rfl) ?_
        cases h
        exact g_iret hx hb hr hK hP hD hS hQ dX2_mostByFilling_29
  · replace h := ite_t h c1
    refine lv_iconst (v := 0) hx hb dX2_mostByFilling_6 (by decide) ?_
    refine lv_goto (tgt := 11) hx hb dX2_mostByFilling_7 (by decide) ?_
    refine lv_istore (lv' := [(4, .int 0), (0, .ref (a 23)), (1, .int p1), (2, .int p2), (3, .int p3)]) hx hb dX2_mostByFilling_11 hl (by decide) rfl (fun ls hl => ?_)
    refine lv_iload_n hx hb dX2_mostByFilling_13 rfl (lv_at hl 4 rfl) ?_
    refine lv_iload hx hb dX2_mostByFilling_14 (lv_at hl 0 rfl) ?_
    refine lv_icmp_lt (tgt := 28) hx hb dX2_mostByFilling_16 (by decide) (fun c6 => ?_) (fun c6 => ?_)
    · replace h := ite_t h c6
      refine lv_iload_n hx hb dX2_mostByFilling_28 rfl (lv_at hl 3 rfl) ?_
      cases h
      exact g_iret hx hb hr hK hP hD hS hQ dX2_mostByFilling_29
    · replace h := ite_f h c6
      refine lv_aload_n hx hb dX2_mostByFilling_19 rfl (lv_at hl 1 rfl) ?_
      refine lv_iload_n hx hb dX2_mostByFilling_20 rfl (lv_at hl 2 rfl) ?_
      refine lv_iload_n hx hb dX2_mostByFilling_21 rfl (lv_at hl 3 rfl) ?_
      obtain ⟨r7, hr7, h⟩ := bnd_some h
      refine g_callVi (As := [.int p1, .int p2]) (rest := []) (ci := 2) (q0 := 23) hx hb hml hown hts (c_X2_staysWarmByFilling_C l dC dI a cy N I A T p1 p2 r7 hr7) (cwV 2 hts gX2_mostByFilling_X2_staysWarmByFilling rfl rfl rfl (by decide +kernel) ⟨by show _ + 1 ≤ _; simp only [rm_X2_staysWarmByFilling_C, rm_X2_mostByFilling_C, headSpec]; omega, by show 8 + (_ + 11) + _ ≤ _; simp only [rm_X2_staysWarmByFilling_C, rm_X2_mostByFilling_C, headSpec]; omega⟩) hK hP hD hS hA rfl (eC_23 a cy I A T) rfl rfl hl.1 rfl (Nat.le_of_ble_eq_true rfl) dX2_mostByFilling_22 (fun H locs hP hD hS => ?_)
      refine lv_if_ne (tgt := 30) hx hb dX2_mostByFilling_25 (by decide) (fun c8 => ?_) (fun c8 => ?_)
      · replace h := ite_f h c8
        refine lv_aload_n hx hb dX2_mostByFilling_30 rfl (lv_at hl 1 rfl) ?_
        refine lv_iload_n hx hb dX2_mostByFilling_31 rfl (lv_at hl 3 rfl) ?_
        refine lv_iconst (v := 1) hx hb dX2_mostByFilling_32 (by decide) ?_
        refine lv_iadd hx hb dX2_mostByFilling_33 ?_
        refine lv_iload_n hx hb dX2_mostByFilling_34 rfl (lv_at hl 4 rfl) ?_
        refine lv_iload hx hb dX2_mostByFilling_35 (lv_at hl 0 rfl) ?_
        refine lv_isub hx hb dX2_mostByFilling_37 ?_
        obtain ⟨r9, hr9, h⟩ := bnd_some h
        refine g_callVi (As := [.int (p2 + 1), .int (p3 - 0)]) (rest := []) (ci := 2) (q0 := 23) hx hb hml hown hts (hmf I r7.2 T (p2 + 1) (p3 - 0) r9 hr9) (cwV 2 hts gX2_mostByFilling_X2_mostFrom rfl rfl rfl (by decide +kernel) ⟨by show _ + 1 ≤ _; simp only [rm_X2_mostFrom_C, rm_X2_mostByFilling_C, headSpec]; omega, by show 8 + (_ + 11) + _ ≤ _; simp only [rm_X2_mostFrom_C, rm_X2_mostByFilling_C, headSpec]; omega⟩) hK hP hD hS hA rfl (eC_23 a cy I r7.2 T) rfl rfl hl.1 rfl (Nat.le_of_ble_eq_true rfl) dX2_mostByFilling_38 (fun H locs hP hD hS => ?_)
        cases h
        exact g_iret hx hb hr hK hP hD hS hQ dX2_mostByFilling_41
      · replace h := ite_t h c8
        refine lv_iload_n hx hb dX2_mostByFilling_28 rfl (lv_at hl 3 rfl) ?_
        cases h
        exact g_iret hx hb hr hK hP hD hS hQ dX2_mostByFilling_29
theorem inX2_mostFrom_X2 : ∀ w ∈ u_ws RX2 TX2 3, w ∈ wsX2_mostFrom := by decide +kernel
theorem mX2_mostFrom_0 : Cond.fieldLink RX2 18 "WarmBottles$Keeping" "night" "LWarmBottles$Night;" ∈ wsX2_mostFrom := List.mem_of_getElem? (i := 1) rfl
theorem inX2_mostFrom_X3 : ∀ w ∈ u_ws RX3 TX3 6, w ∈ wsX2_mostFrom := by decide +kernel
theorem mX2_mostFrom_1 : Cond.fieldLink RX2 39 "WarmBottles$Night" "told" "LWarmBottles$Told;" ∈ wsX2_mostFrom := List.mem_of_getElem? (i := 2) rfl
theorem inX2_mostFrom_X6 : ∀ w ∈ u_ws RX6 TX6 6, w ∈ wsX2_mostFrom := by decide +kernel
theorem mX2_mostFrom_2 : Cond.fieldLink RX2 43 "WarmBottles$Told" "bottles" "I" ∈ wsX2_mostFrom := List.mem_of_getElem? (i := 3) rfl
theorem mX2_mostFrom_3 : Cond.methodLink RX2 62 Lib.Math.max.name ∈ wsX2_mostFrom := List.mem_of_getElem? (i := 4) rfl
theorem mX2_mostFrom_4 : Cond.static Lib.Math.max.name ∈ wsX2_mostFrom := List.mem_of_getElem? (i := 5) rfl
theorem mX2_mostFrom_5 : Cond.initialized "java/lang/Math" ∈ wsX2_mostFrom := List.mem_of_getElem? (i := 6) rfl
theorem mX2_mostFrom_6 : Cond.code Lib.Math.max.name Lib.Math.max.code 2 (some .int) ∈ wsX2_mostFrom := List.mem_of_getElem? (i := 7) rfl
def rm_X2_mostFrom_C (d : Nat) : Room := { frames := 8 * d + 8, cells := 0, slots := 0, locals := 400 * d + 400 }
def f_X2_mostFrom_C_L19 (N : Nat) (mf : (Nat → Int32) → (Nat → Nat → Int32) → Int32 → Int32 → Option (Int32 × (Nat → Nat → Int32))) (k_19 : Int32 → Int32 → (Nat → Nat → Int32) → Option (Int32 × (Nat → Nat → Int32))) (x1 : Int32) (x2 : Int32) (I : (Nat → Int32)) : Nat → Int32 → Int32 → (Nat → Nat → Int32) → Option (Int32 × (Nat → Nat → Int32))
  | 0, _, _, _ => none
  | n_19 + 1, x3, x4, A_19 => (if (I 13) ≤ x4 then (k_19 x3 x4 A_19) else (if 4 ≤ x3 then (k_19 x3 x4 A_19) else (Option.bind (f_X2_mostByFilling_C N mf I A_19 x4 x1 x2) (fun r5 => (f_X2_mostFrom_C_L19 N mf k_19 x1 x2 I n_19 (iMax x3 r5.1) (x4 + 1) r5.2)))))
def f_X2_mostFrom_C (N : Nat) : Nat → (Nat → Int32) → (Nat → Nat → Int32) → Int32 → Int32 → Option (Int32 × (Nat → Nat → Int32))
  | 0, _, _, _, _ => none
  | d + 1, I, A, p1, p2 => (if p1 < 4 then (Option.bind (f_X2_mostByFilling_C N (f_X2_mostFrom_C N d) I A 6 p1 p2) (fun r2 => (f_X2_mostFrom_C_L19 N (f_X2_mostFrom_C N d) (fun (x3 : Int32) (x4 : Int32) (A_19 : (Nat → Nat → Int32)) => some (x3, A_19)) p1 p2 I N r2.1 0 r2.2))) else some (4, A))
set_option maxHeartbeats 4000000 in
set_option maxRecDepth 100000 in
theorem c_X2_mostFrom_C (l : Launch) (dC : Nat → ClassId) (dI : Nat → Nat → Nat) (a : Nat → Nat) (cy : Nat → ClassId) (N : Nat) : ∀ (d : Nat) (I : Nat → Int32) (A : Nat → Nat → Int32) (T : Int64) (p1 : Int32) (p2 : Int32) (res : Int32 × (Nat → Nat → Int32)), f_X2_mostFrom_C N d I A p1 p2 = some res → ∀ sz : Nat, Met l yX2_mostFrom wsX2_mostFrom (rm_X2_mostFrom_C d) (g_Pre (dC, dI) cy [.ref (a 23), .int p1, .int p2] (wC a cy I A T) sz) (g_Qi (dC, dI) cy res.1 (wC a cy I A T) (wC a cy I res.2 T) sz) 0 0 (va_A (wC a cy I A T) sz) := by
  intro d
  induction d with
  | zero =>
    intro I A T p1 p2 res h
    exact absurd h (by rw [f_X2_mostFrom_C]; exact fun q => by cases q)
  | succ d ihd =>
    intro I A T p1 p2 res h sz
    rw [f_X2_mostFrom_C] at h
    refine g_entry _ _ _ _ _ _ (cc := cX2_mostFrom) (maxL := 5) (ret := (some .int)) (by decide) rfl (Nat.le_of_ble_eq_true rfl) ?_
    intro p e s m args below meth c ls hx hb hml hown hts hr hlocks hA hK hP hD hS hl Q hQ
    have hl : lv_has ls 5 [(0, .ref (a 23)), (1, .int p1), (2, .int p2)] := hl
    have hown : s.vm.findClass RX2 = some m.cls := hown
    refine lv_iload_n hx hb dX2_mostFrom_0 rfl (lv_at hl 1 rfl) ?_
    refine lv_iconst (v := 4) hx hb dX2_mostFrom_1 (by decide) ?_
    refine lv_icmp_lt (tgt := 7) hx hb dX2_mostFrom_2 (by decide) (fun c1 => ?_) (fun c1 => ?_)
    · replace h := ite_t h c1
      refine lv_aload_n hx hb dX2_mostFrom_7 rfl (lv_at hl 0 rfl) ?_
      refine lv_bipush (v := 6) hx hb dX2_mostFrom_8 (by decide) ?_
      refine lv_iload_n hx hb dX2_mostFrom_10 rfl (lv_at hl 1 rfl) ?_
      refine lv_iload_n hx hb dX2_mostFrom_11 rfl (lv_at hl 2 rfl) ?_
      obtain ⟨r2, hr2, h⟩ := bnd_some h
      refine g_callVi (As := [.int 6, .int p1, .int p2]) (rest := []) (ci := 2) (q0 := 23) hx hb hml hown hts (c_X2_mostByFilling_C l dC dI a cy N (f_X2_mostFrom_C N d) d (fun I A T p1 p2 res h => ihd I A T p1 p2 res h) I A T 6 p1 p2 r2 hr2) (cwV 3 hts gX2_mostFrom_X2_mostByFilling rfl rfl rfl (by decide +kernel) ⟨by show _ + 1 ≤ _; simp only [rm_X2_mostByFilling_C, rm_X2_mostFrom_C, headSpec]; omega, by show 8 + (_ + 11) + _ ≤ _; simp only [rm_X2_mostByFilling_C, rm_X2_mostFrom_C, headSpec]; omega⟩) hK hP hD hS hA rfl (eC_23 a cy I A T) rfl rfl hl.1 rfl (Nat.le_of_ble_eq_true rfl) dX2_mostFrom_12 (fun H locs hP hD hS => ?_)
      refine lv_istore_n (lv' := [(3, .int r2.1), (0, .ref (a 23)), (1, .int p1), (2, .int p2)]) hx hb dX2_mostFrom_15 rfl hl (by decide) rfl (fun ls hl => ?_)
      refine lv_iconst (v := 0) hx hb dX2_mostFrom_16 (by decide) ?_
      refine lv_istore (lv' := [(4, .int 0), (3, .int r2.1), (0, .ref (a 23)), (1, .int p1), (2, .int p2)]) hx hb dX2_mostFrom_17 hl (by decide) rfl (fun ls hl => ?_)
      have lp19 : ∀ (x1 : Int32) (x2 : Int32) (k_19 : Int32 → Int32 → (Nat → Nat → Int32) → Option (Int32 × (Nat → Nat → Int32))), (∀ (x3 : Int32) (x4 : Int32) (A_19 : (Nat → Nat → Int32)), k_19 x3 x4 A_19 = some res → g_At (dC, dI) p l e (headSpec wsX2_mostFrom (rm_X2_mostFrom_C (d + 1))).room s m args below meth c Q (wC a cy I A T) sz 5 (wC a cy I A_19 T) [(3, .int x3)] 58 []) → ∀ (n_19 : Nat) (x3 : Int32) (x4 : Int32) (A_19 : (Nat → Nat → Int32)), f_X2_mostFrom_C_L19 N (f_X2_mostFrom_C N d) k_19 x1 x2 I n_19 x3 x4 A_19 = some res → g_At (dC, dI) p l e (headSpec wsX2_mostFrom (rm_X2_mostFrom_C (d + 1))).room s m args below meth c Q (wC a cy I A T) sz 5 (wC a cy I A_19 T) [(0, .ref (a 23)), (1, .int x1), (2, .int x2), (3, .int x3), (4, .int x4)] 19 [] := by
        intro x1 x2 k_19 hk_19 n_19
        induction n_19 with
        | zero =>
          intro x3 x4 A_19 h
          exact absurd h (by rw [f_X2_mostFrom_C_L19]; exact fun q => by cases q)
        | succ n_19 ih19 =>
          intro x3 x4 A_19 h H locs hP hD hS ls hl
          rw [f_X2_mostFrom_C_L19] at h
          refine lv_iload hx hb dX2_mostFrom_19 (lv_at hl 4 rfl) ?_
          refine lv_aload_n hx hb dX2_mostFrom_21 rfl (lv_at hl 0 rfl) ?_
          refine va_get (D := (dC, dI)) (ci := 2) (v := .ref (a 7)) (C := RX2) (T := TX2) (N := 3) hx hb hts inX2_mostFrom_X2 hown hK hP 23 (eC_23 a cy I A_19 T) rfl 0 (by decide) (hts _ mX2_mostFrom_0) (fun _ h9 => h9) rfl dX2_mostFrom_22 ?_
          refine va_get (D := (dC, dI)) (ci := 3) (v := .ref (a 8)) (C := RX3) (T := TX3) (N := 6) hx hb hts inX2_mostFrom_X3 hown hK hP 7 (eC_7 a cy I A_19 T) rfl 0 (by decide) (hts _ mX2_mostFrom_1) (fun _ h9 => h9) rfl dX2_mostFrom_25 ?_
          refine va_get (D := (dC, dI)) (ci := 6) (v := .int (I 13)) (C := RX6) (T := TX6) (N := 6) hx hb hts inX2_mostFrom_X6 hown hK hP 8 (eC_8 a cy I A_19 T) rfl 3 (by decide) (hts _ mX2_mostFrom_2) (fun _ h9 => h9) rfl dX2_mostFrom_28 ?_
          refine lv_icmp_ge (tgt := 58) hx hb dX2_mostFrom_31 (by decide) (fun c3 => ?_) (fun c3 => ?_)
          · replace h := ite_t h c3
            exact hk_19 _ _ _ h _ _ hP hD hS _ (lv_sub hl [3] rfl)
          · replace h := ite_f h c3
            refine lv_iload_n hx hb dX2_mostFrom_34 rfl (lv_at hl 3 rfl) ?_
            refine lv_iconst (v := 4) hx hb dX2_mostFrom_35 (by decide) ?_
            refine lv_icmp_ge (tgt := 58) hx hb dX2_mostFrom_36 (by decide) (fun c4 => ?_) (fun c4 => ?_)
            · replace h := ite_t h c4
              exact hk_19 _ _ _ h _ _ hP hD hS _ (lv_sub hl [3] rfl)
            · replace h := ite_f h c4
              refine lv_iload_n hx hb dX2_mostFrom_39 rfl (lv_at hl 3 rfl) ?_
              refine lv_aload_n hx hb dX2_mostFrom_40 rfl (lv_at hl 0 rfl) ?_
              refine lv_iload hx hb dX2_mostFrom_41 (lv_at hl 4 rfl) ?_
              refine lv_iload_n hx hb dX2_mostFrom_43 rfl (lv_at hl 1 rfl) ?_
              refine lv_iload_n hx hb dX2_mostFrom_44 rfl (lv_at hl 2 rfl) ?_
              obtain ⟨r5, hr5, h⟩ := bnd_some h
              refine g_callVi (As := [.int x4, .int x1, .int x2]) (rest := [.int x3]) (ci := 2) (q0 := 23) hx hb hml hown hts (c_X2_mostByFilling_C l dC dI a cy N (f_X2_mostFrom_C N d) d (fun I A T p1 p2 res h => ihd I A T p1 p2 res h) I A_19 T x4 x1 x2 r5 hr5) (cwV 3 hts gX2_mostFrom_X2_mostByFilling rfl rfl rfl (by decide +kernel) ⟨by show _ + 1 ≤ _; simp only [rm_X2_mostByFilling_C, rm_X2_mostFrom_C, headSpec]; omega, by show 8 + (_ + 11) + _ ≤ _; simp only [rm_X2_mostByFilling_C, rm_X2_mostFrom_C, headSpec]; omega⟩) hK hP hD hS hA rfl (eC_23 a cy I A_19 T) rfl rfl hl.1 rfl (Nat.le_of_ble_eq_true rfl) dX2_mostFrom_45 (fun H locs hP hD hS => ?_)
              refine g_mmax hx hb (hml.trans hl.1.symm) hown (hts _ mX2_mostFrom_3) (hts _ mX2_mostFrom_4) (hts _ mX2_mostFrom_5) (hts _ mX2_mostFrom_6) (Nat.le_of_ble_eq_true rfl) (Nat.le_of_ble_eq_true rfl) (Nat.zero_le _) (Nat.zero_le _) dX2_mostFrom_48 ?_
              refine lv_istore_n (lv' := [(3, .int (iMax x3 r5.1)), (0, .ref (a 23)), (1, .int x1), (2, .int x2), (4, .int x4)]) hx hb dX2_mostFrom_51 rfl hl (by decide) rfl (fun ls hl => ?_)
              refine lv_iinc (v := (x4 + 1)) (lv' := [(4, .int (x4 + 1)), (3, .int (iMax x3 r5.1)), (0, .ref (a 23)), (1, .int x1), (2, .int x2)]) hx hb dX2_mostFrom_52 hl (k := 4) rfl rfl (by decide) rfl (fun ls hl => ?_)
              refine lv_goto (tgt := 19) hx hb dX2_mostFrom_55 (by decide) ?_
              exact ih19 _ _ _ h _ _ hP hD hS _ (lv_sub hl [2, 3, 4, 1, 0] rfl)
      refine lp19 _ _ _ ?_ N _ _ _ h _ _ hP hD hS _ (lv_sub hl [2, 3, 4, 1, 0] rfl)
      intro x3 x4 A_19 h H locs hP hD hS ls hl
      refine lv_iload_n hx hb dX2_mostFrom_58 rfl (lv_at hl 0 rfl) ?_
      cases h
      exact g_iret hx hb hr hK hP hD hS hQ dX2_mostFrom_59
    · replace h := ite_f h c1
      refine lv_iconst (v := 4) hx hb dX2_mostFrom_5 (by decide) ?_
      cases h
      exact g_iret hx hb hr hK hP hD hS hQ dX2_mostFrom_6
theorem inX2_mostHours_X2 : ∀ w ∈ u_ws RX2 TX2 3, w ∈ wsX2_mostHours := by decide +kernel
theorem mX2_mostHours_0 : Cond.fieldLink RX2 18 "WarmBottles$Keeping" "night" "LWarmBottles$Night;" ∈ wsX2_mostHours := List.mem_of_getElem? (i := 1) rfl
theorem inX2_mostHours_X3 : ∀ w ∈ u_ws RX3 TX3 6, w ∈ wsX2_mostHours := by decide +kernel
theorem mX2_mostHours_1 : Cond.fieldLink RX2 25 "WarmBottles$Night" "kettle" "I" ∈ wsX2_mostHours := List.mem_of_getElem? (i := 2) rfl
def rm_X2_mostHours_C : Room := { frames := 58, cells := 0, slots := 0, locals := 2860 }
def f_X2_mostHours_C (N : Nat) (I : Nat → Int32) (A : Nat → Nat → Int32)  : Option (Int32 × (Nat → Nat → Int32)) := (Option.bind (f_X2_lookAtNight_C N I A) (fun r1 => (Option.bind (f_X2_mostFrom_C N 6 I r1 0 (I 12)) (fun r2 => some (r2.1, r2.2)))))
set_option maxHeartbeats 4000000 in
set_option maxRecDepth 100000 in
theorem c_X2_mostHours_C (l : Launch) (dC : Nat → ClassId) (dI : Nat → Nat → Nat) (a : Nat → Nat) (cy : Nat → ClassId) (N : Nat) (I : Nat → Int32) (A : Nat → Nat → Int32) (T : Int64)  (res : Int32 × (Nat → Nat → Int32)) (h : f_X2_mostHours_C N I A  = some res) (sz : Nat) : Met l yX2_mostHours wsX2_mostHours rm_X2_mostHours_C (g_Pre (dC, dI) cy [.ref (a 23)] (wC a cy I A T) sz) (g_Qi (dC, dI) cy res.1 (wC a cy I A T) (wC a cy I res.2 T) sz) 0 0 (va_A (wC a cy I A T) sz) := by
  unfold f_X2_mostHours_C at h
  refine g_entry _ _ _ _ _ _ (cc := cX2_mostHours) (maxL := 1) (ret := (some .int)) (by decide) rfl (Nat.le_of_ble_eq_true rfl) ?_
  intro p e s m args below meth c ls hx hb hml hown hts hr hlocks hA hK hP hD hS hl Q hQ
  have hl : lv_has ls 1 [(0, .ref (a 23))] := hl
  have hown : s.vm.findClass RX2 = some m.cls := hown
  refine lv_aload_n hx hb dX2_mostHours_0 rfl (lv_at hl 0 rfl) ?_
  obtain ⟨r1, hr1, h⟩ := bnd_some h
  refine g_callVv (As := []) (rest := []) (ci := 2) (q0 := 23) hx hb hml hown hts (c_X2_lookAtNight_C l dC dI a cy N I A T r1 hr1) (cwV 0 hts gX2_mostHours_X2_lookAtNight rfl rfl rfl (by decide +kernel) ⟨Nat.le_of_ble_eq_true rfl, Nat.le_of_ble_eq_true rfl⟩) hK hP hD hS hA rfl (eC_23 a cy I A T) rfl rfl hl.1 rfl (Nat.le_of_ble_eq_true rfl) dX2_mostHours_1 (fun H locs hP hD hS => ?_)
  refine lv_aload_n hx hb dX2_mostHours_4 rfl (lv_at hl 0 rfl) ?_
  refine lv_iconst (v := 0) hx hb dX2_mostHours_5 (by decide) ?_
  refine lv_aload_n hx hb dX2_mostHours_6 rfl (lv_at hl 0 rfl) ?_
  refine va_get (D := (dC, dI)) (ci := 2) (v := .ref (a 7)) (C := RX2) (T := TX2) (N := 3) hx hb hts inX2_mostHours_X2 hown hK hP 23 (eC_23 a cy I r1 T) rfl 0 (by decide) (hts _ mX2_mostHours_0) (fun _ h9 => h9) rfl dX2_mostHours_7 ?_
  refine va_get (D := (dC, dI)) (ci := 3) (v := .int (I 12)) (C := RX3) (T := TX3) (N := 6) hx hb hts inX2_mostHours_X3 hown hK hP 7 (eC_7 a cy I r1 T) rfl 5 (by decide) (hts _ mX2_mostHours_1) (fun _ h9 => h9) rfl dX2_mostHours_10 ?_
  obtain ⟨r2, hr2, h⟩ := bnd_some h
  refine g_callVi (As := [.int 0, .int (I 12)]) (rest := []) (ci := 2) (q0 := 23) hx hb hml hown hts (c_X2_mostFrom_C l dC dI a cy N 6 I r1 T 0 (I 12) r2 hr2) (cwV 2 hts gX2_mostHours_X2_mostFrom rfl rfl rfl (by decide +kernel) ⟨Nat.le_of_ble_eq_true rfl, Nat.le_of_ble_eq_true rfl⟩) hK hP hD hS hA rfl (eC_23 a cy I r1 T) rfl rfl hl.1 rfl (Nat.le_of_ble_eq_true rfl) dX2_mostHours_13 (fun H locs hP hD hS => ?_)
  cases h
  exact g_iret hx hb hr hK hP hD hS hQ dX2_mostHours_16
theorem inX2_first_X2 : ∀ w ∈ u_ws RX2 TX2 3, w ∈ wsX2_first := by decide +kernel
theorem mX2_first_0 : Cond.fieldLink RX2 18 "WarmBottles$Keeping" "night" "LWarmBottles$Night;" ∈ wsX2_first := List.mem_of_getElem? (i := 1) rfl
theorem inX2_first_X3 : ∀ w ∈ u_ws RX3 TX3 6, w ∈ wsX2_first := by decide +kernel
theorem mX2_first_1 : Cond.fieldLink RX2 39 "WarmBottles$Night" "told" "LWarmBottles$Told;" ∈ wsX2_first := List.mem_of_getElem? (i := 2) rfl
theorem inX2_first_X6 : ∀ w ∈ u_ws RX6 TX6 6, w ∈ wsX2_first := by decide +kernel
theorem mX2_first_2 : Cond.fieldLink RX2 43 "WarmBottles$Told" "bottles" "I" ∈ wsX2_first := List.mem_of_getElem? (i := 3) rfl
theorem mX2_first_3 : Cond.fieldLink RX2 25 "WarmBottles$Night" "kettle" "I" ∈ wsX2_first := List.mem_of_getElem? (i := 4) rfl
def rm_X2_first_C : Room := { frames := 62, cells := 0, slots := 0, locals := 3060 }
def f_X2_first_C_L14 (N : Nat) (k_14 : Int32 → (Nat → Nat → Int32) → Option (Int32 × (Nat → Nat → Int32))) (x1 : Int32) (I : (Nat → Int32)) : Nat → Int32 → (Nat → Nat → Int32) → Option (Int32 × (Nat → Nat → Int32))
  | 0, _, _ => none
  | n_14 + 1, x2, A_14 => (if (I 13) ≤ x2 then (k_14 x2 A_14) else (Option.bind (f_X2_mostByFilling_C N (f_X2_mostFrom_C N 6) I A_14 x2 0 (I 12)) (fun r4 => (if r4.1 = x1 then some (x2, r4.2) else (f_X2_first_C_L14 N k_14 x1 I n_14 (x2 + 1) r4.2)))))
def f_X2_first_C (N : Nat) (I : Nat → Int32) (A : Nat → Nat → Int32)  : Option (Int32 × (Nat → Nat → Int32)) := (Option.bind (f_X2_mostHours_C N I A) (fun r1 => (if r1.1 = 0 then some ((-9), r1.2) else (f_X2_first_C_L14 N (fun (x2 : Int32) (A_14 : (Nat → Nat → Int32)) => some (6, A_14)) r1.1 I N 0 r1.2))))
set_option maxHeartbeats 4000000 in
set_option maxRecDepth 100000 in
theorem c_X2_first_C (l : Launch) (dC : Nat → ClassId) (dI : Nat → Nat → Nat) (a : Nat → Nat) (cy : Nat → ClassId) (N : Nat) (I : Nat → Int32) (A : Nat → Nat → Int32) (T : Int64)  (res : Int32 × (Nat → Nat → Int32)) (h : f_X2_first_C N I A  = some res) (sz : Nat) : Met l yX2_first wsX2_first rm_X2_first_C (g_Pre (dC, dI) cy [.ref (a 23)] (wC a cy I A T) sz) (g_Qi (dC, dI) cy res.1 (wC a cy I A T) (wC a cy I res.2 T) sz) 0 0 (va_A (wC a cy I A T) sz) := by
  unfold f_X2_first_C at h
  refine g_entry _ _ _ _ _ _ (cc := cX2_first) (maxL := 3) (ret := (some .int)) (by decide) rfl (Nat.le_of_ble_eq_true rfl) ?_
  intro p e s m args below meth c ls hx hb hml hown hts hr hlocks hA hK hP hD hS hl Q hQ
  have hl : lv_has ls 3 [(0, .ref (a 23))] := hl
  have hown : s.vm.findClass RX2 = some m.cls := hown
  refine lv_aload_n hx hb dX2_first_0 rfl (lv_at hl 0 rfl) ?_
  obtain ⟨r1, hr1, h⟩ := bnd_some h
  refine g_callVi (As := []) (rest := []) (ci := 2) (q0 := 23) hx hb hml hown hts (c_X2_mostHours_C l dC dI a cy N I A T r1 hr1) (cwV 0 hts gX2_first_X2_mostHours rfl rfl rfl (by decide +kernel) ⟨Nat.le_of_ble_eq_true rfl, Nat.le_of_ble_eq_true rfl⟩) hK hP hD hS hA rfl (eC_23 a cy I A T) rfl rfl hl.1 rfl (Nat.le_of_ble_eq_true rfl) dX2_first_1 (fun H locs hP hD hS => ?_)
  refine lv_istore_n (lv' := [(1, .int r1.1), (0, .ref (a 23))]) hx hb dX2_first_4 rfl hl (by decide) rfl (fun ls hl => ?_)
  refine lv_iload_n hx hb dX2_first_5 rfl (lv_at hl 0 rfl) ?_
  refine lv_if_ne (tgt := 12) hx hb dX2_first_6 (by decide) (fun c2 => ?_) (fun c2 => ?_)
  · replace h := ite_f h c2
    refine lv_iconst (v := 0) hx hb dX2_first_12 (by decide) ?_
    refine lv_istore_n (lv' := [(2, .int 0), (1, .int r1.1), (0, .ref (a 23))]) hx hb dX2_first_13 rfl hl (by decide) rfl (fun ls hl => ?_)
    have lp14 : ∀ (x1 : Int32) (k_14 : Int32 → (Nat → Nat → Int32) → Option (Int32 × (Nat → Nat → Int32))), (∀ (x2 : Int32) (A_14 : (Nat → Nat → Int32)), k_14 x2 A_14 = some res → g_At (dC, dI) p l e (headSpec wsX2_first rm_X2_first_C).room s m args below meth c Q (wC a cy I A T) sz 3 (wC a cy I A_14 T) [] 53 []) → ∀ (n_14 : Nat) (x2 : Int32) (A_14 : (Nat → Nat → Int32)), f_X2_first_C_L14 N k_14 x1 I n_14 x2 A_14 = some res → g_At (dC, dI) p l e (headSpec wsX2_first rm_X2_first_C).room s m args below meth c Q (wC a cy I A T) sz 3 (wC a cy I A_14 T) [(0, .ref (a 23)), (1, .int x1), (2, .int x2)] 14 [] := by
      intro x1 k_14 hk_14 n_14
      induction n_14 with
      | zero =>
        intro x2 A_14 h
        exact absurd h (by rw [f_X2_first_C_L14]; exact fun q => by cases q)
      | succ n_14 ih14 =>
        intro x2 A_14 h H locs hP hD hS ls hl
        rw [f_X2_first_C_L14] at h
        refine lv_iload_n hx hb dX2_first_14 rfl (lv_at hl 2 rfl) ?_
        refine lv_aload_n hx hb dX2_first_15 rfl (lv_at hl 0 rfl) ?_
        refine va_get (D := (dC, dI)) (ci := 2) (v := .ref (a 7)) (C := RX2) (T := TX2) (N := 3) hx hb hts inX2_first_X2 hown hK hP 23 (eC_23 a cy I A_14 T) rfl 0 (by decide) (hts _ mX2_first_0) (fun _ h9 => h9) rfl dX2_first_16 ?_
        refine va_get (D := (dC, dI)) (ci := 3) (v := .ref (a 8)) (C := RX3) (T := TX3) (N := 6) hx hb hts inX2_first_X3 hown hK hP 7 (eC_7 a cy I A_14 T) rfl 0 (by decide) (hts _ mX2_first_1) (fun _ h9 => h9) rfl dX2_first_19 ?_
        refine va_get (D := (dC, dI)) (ci := 6) (v := .int (I 13)) (C := RX6) (T := TX6) (N := 6) hx hb hts inX2_first_X6 hown hK hP 8 (eC_8 a cy I A_14 T) rfl 3 (by decide) (hts _ mX2_first_2) (fun _ h9 => h9) rfl dX2_first_22 ?_
        refine lv_icmp_ge (tgt := 53) hx hb dX2_first_25 (by decide) (fun c3 => ?_) (fun c3 => ?_)
        · replace h := ite_t h c3
          exact hk_14 _ _ h _ _ hP hD hS _ (lv_sub hl [] rfl)
        · replace h := ite_f h c3
          refine lv_aload_n hx hb dX2_first_28 rfl (lv_at hl 0 rfl) ?_
          refine lv_iload_n hx hb dX2_first_29 rfl (lv_at hl 2 rfl) ?_
          refine lv_iconst (v := 0) hx hb dX2_first_30 (by decide) ?_
          refine lv_aload_n hx hb dX2_first_31 rfl (lv_at hl 0 rfl) ?_
          refine va_get (D := (dC, dI)) (ci := 2) (v := .ref (a 7)) (C := RX2) (T := TX2) (N := 3) hx hb hts inX2_first_X2 hown hK hP 23 (eC_23 a cy I A_14 T) rfl 0 (by decide) (hts _ mX2_first_0) (fun _ h9 => h9) rfl dX2_first_32 ?_
          refine va_get (D := (dC, dI)) (ci := 3) (v := .int (I 12)) (C := RX3) (T := TX3) (N := 6) hx hb hts inX2_first_X3 hown hK hP 7 (eC_7 a cy I A_14 T) rfl 5 (by decide) (hts _ mX2_first_3) (fun _ h9 => h9) rfl dX2_first_35 ?_
          obtain ⟨r4, hr4, h⟩ := bnd_some h
          refine g_callVi (As := [.int x2, .int 0, .int (I 12)]) (rest := []) (ci := 2) (q0 := 23) hx hb hml hown hts (c_X2_mostByFilling_C l dC dI a cy N (f_X2_mostFrom_C N 6) 6 (c_X2_mostFrom_C l dC dI a cy N 6) I A_14 T x2 0 (I 12) r4 hr4) (cwV 3 hts gX2_first_X2_mostByFilling rfl rfl rfl (by decide +kernel) ⟨Nat.le_of_ble_eq_true rfl, Nat.le_of_ble_eq_true rfl⟩) hK hP hD hS hA rfl (eC_23 a cy I A_14 T) rfl rfl hl.1 rfl (Nat.le_of_ble_eq_true rfl) dX2_first_38 (fun H locs hP hD hS => ?_)
          refine lv_iload_n hx hb dX2_first_41 rfl (lv_at hl 1 rfl) ?_
          refine lv_icmp_ne (tgt := 47) hx hb dX2_first_42 (by decide) (fun c5 => ?_) (fun c5 => ?_)
          · replace h := ite_f h c5
            refine lv_iinc (v := (x2 + 1)) (lv' := [(2, .int (x2 + 1)), (0, .ref (a 23)), (1, .int x1)]) hx hb dX2_first_47 hl (k := 2) rfl rfl (by decide) rfl (fun ls hl => ?_)
            refine lv_goto (tgt := 14) hx hb dX2_first_50 (by decide) ?_
            exact ih14 _ _ h _ _ hP hD hS _ (lv_sub hl [1, 2, 0] rfl)
          · replace h := ite_t h c5
            refine lv_iload_n hx hb dX2_first_45 rfl (lv_at hl 2 rfl) ?_
            cases h
            exact g_iret hx hb hr hK hP hD hS hQ dX2_first_46
    refine lp14 _ _ ?_ N _ _ h _ _ hP hD hS _ (lv_sub hl [2, 1, 0] rfl)
    intro x2 A_14 h H locs hP hD hS ls hl
    refine lv_bipush (v := 6) hx hb dX2_first_53 (by decide) ?_
    cases h
    exact g_iret hx hb hr hK hP hD hS hQ dX2_first_55
  · replace h := ite_t h c2
    refine lv_bipush (v := (-9)) hx hb dX2_first_9 (by decide) ?_
    cases h
    exact g_iret hx hb hr hK hP hD hS hQ dX2_first_11
theorem inX7_kept_X7 : ∀ w ∈ u_ws RX7 TX7 9, w ∈ wsX7_kept := by decide +kernel
theorem mX7_kept_0 : Cond.fieldLink RX7 26 "WarmBottles" "night" "LWarmBottles$Night;" ∈ wsX7_kept := List.mem_of_getElem? (i := 1) rfl
theorem inX7_kept_X3 : ∀ w ∈ u_ws RX3 TX3 6, w ∈ wsX7_kept := by decide +kernel
theorem mX7_kept_1 : Cond.fieldLink RX7 78 "WarmBottles$Night" "told" "LWarmBottles$Told;" ∈ wsX7_kept := List.mem_of_getElem? (i := 2) rfl
theorem inX7_kept_X6 : ∀ w ∈ u_ws RX6 TX6 6, w ∈ wsX7_kept := by decide +kernel
theorem mX7_kept_2 : Cond.fieldLink RX7 128 "WarmBottles$Told" "bottles" "I" ∈ wsX7_kept := List.mem_of_getElem? (i := 3) rfl
theorem mX7_kept_3 : Cond.fieldLink RX7 62 "WarmBottles" "keeping" "LWarmBottles$Keeping;" ∈ wsX7_kept := List.mem_of_getElem? (i := 4) rfl
def rm_X7_kept_C : Room := { frames := 64, cells := 0, slots := 0, locals := 3120 }
def f_X7_kept_C (N : Nat) (I : Nat → Int32) (A : Nat → Nat → Int32) (p1 : Int32) : Option (Int32 × (Nat → Nat → Int32)) := (if p1 = 0 then (if (I 13) = 0 then some ((-9), A) else (Option.bind (f_X2_mostHours_C N I A) (fun r4 => some (r4.1, r4.2)))) else (if p1 = 1 then (if (I 13) = 0 then some ((-9), A) else (Option.bind (f_X2_first_C N I A) (fun r8 => some (r8.1, r8.2)))) else some ((-1), A)))
set_option maxHeartbeats 4000000 in
set_option maxRecDepth 100000 in
theorem c_X7_kept_C (l : Launch) (dC : Nat → ClassId) (dI : Nat → Nat → Nat) (a : Nat → Nat) (cy : Nat → ClassId) (N : Nat) (I : Nat → Int32) (A : Nat → Nat → Int32) (T : Int64) (p1 : Int32) (res : Int32 × (Nat → Nat → Int32)) (h : f_X7_kept_C N I A p1 = some res) (sz : Nat) : Met l yX7_kept wsX7_kept rm_X7_kept_C (g_Pre (dC, dI) cy [.ref (a 0), .int p1] (wC a cy I A T) sz) (g_Qi (dC, dI) cy res.1 (wC a cy I A T) (wC a cy I res.2 T) sz) 0 0 (va_A (wC a cy I A T) sz) := by
  unfold f_X7_kept_C at h
  refine g_entry _ _ _ _ _ _ (cc := cX7_kept) (maxL := 2) (ret := (some .int)) (by decide) rfl (Nat.le_of_ble_eq_true rfl) ?_
  intro p e s m args below meth c ls hx hb hml hown hts hr hlocks hA hK hP hD hS hl Q hQ
  have hl : lv_has ls 2 [(0, .ref (a 0)), (1, .int p1)] := hl
  have hown : s.vm.findClass RX7 = some m.cls := hown
  refine lv_iload_n hx hb dX7_kept_0 rfl (lv_at hl 1 rfl) ?_
  refine lv_if_eq (tgt := 11) hx hb dX7_kept_1 (by decide) (fun c1 => ?_) (fun c1 => ?_)
  · replace h := ite_t h c1
    refine lv_aload_n hx hb dX7_kept_11 rfl (lv_at hl 0 rfl) ?_
    refine va_get (D := (dC, dI)) (ci := 7) (v := .ref (a 7)) (C := RX7) (T := TX7) (N := 9) hx hb hts inX7_kept_X7 hown hK hP 0 (eC_0 a cy I A T) rfl 2 (by decide) (hts _ mX7_kept_0) (fun _ h9 => h9) rfl dX7_kept_12 ?_
    refine va_get (D := (dC, dI)) (ci := 3) (v := .ref (a 8)) (C := RX3) (T := TX3) (N := 6) hx hb hts inX7_kept_X3 hown hK hP 7 (eC_7 a cy I A T) rfl 0 (by decide) (hts _ mX7_kept_1) (fun _ h9 => h9) rfl dX7_kept_15 ?_
    refine va_get (D := (dC, dI)) (ci := 6) (v := .int (I 13)) (C := RX6) (T := TX6) (N := 6) hx hb hts inX7_kept_X6 hown hK hP 8 (eC_8 a cy I A T) rfl 3 (by decide) (hts _ mX7_kept_2) (fun _ h9 => h9) rfl dX7_kept_18 ?_
    refine lv_if_ne (tgt := 27) hx hb dX7_kept_21 (by decide) (fun c2 => ?_) (fun c2 => ?_)
    · replace h := ite_f h c2
      refine lv_iload_n hx hb dX7_kept_27 rfl (lv_at hl 1 rfl) ?_
      refine lv_if_ne (tgt := 41) hx hb dX7_kept_28 (by decide) (fun c3 => absurd c1 c3) (fun _ => ?_)
      refine lv_aload_n hx hb dX7_kept_31 rfl (lv_at hl 0 rfl) ?_
      refine va_get (D := (dC, dI)) (ci := 7) (v := .ref (a 23)) (C := RX7) (T := TX7) (N := 9) hx hb hts inX7_kept_X7 hown hK hP 0 (eC_0 a cy I A T) rfl 7 (by decide) (hts _ mX7_kept_3) (fun _ h9 => h9) rfl dX7_kept_32 ?_
      obtain ⟨r4, hr4, h⟩ := bnd_some h
      refine g_callVi (As := []) (rest := []) (ci := 2) (q0 := 23) hx hb hml hown hts (c_X2_mostHours_C l dC dI a cy N I A T r4 hr4) (cwV 0 hts gX7_kept_X2_mostHours rfl rfl rfl (by decide +kernel) ⟨Nat.le_of_ble_eq_true rfl, Nat.le_of_ble_eq_true rfl⟩) hK hP hD hS hA rfl (eC_23 a cy I A T) rfl rfl hl.1 rfl (Nat.le_of_ble_eq_true rfl) dX7_kept_35 (fun H locs hP hD hS => ?_)
      refine lv_goto (tgt := 48) hx hb dX7_kept_38 (by decide) ?_
      cases h
      exact g_iret hx hb hr hK hP hD hS hQ dX7_kept_48
    · replace h := ite_t h c2
      refine lv_bipush (v := (-9)) hx hb dX7_kept_24 (by decide) ?_
      cases h
      exact g_iret hx hb hr hK hP hD hS hQ dX7_kept_26
  · replace h := ite_f h c1
    refine lv_iload_n hx hb dX7_kept_4 rfl (lv_at hl 1 rfl) ?_
    refine lv_iconst (v := 1) hx hb dX7_kept_5 (by decide) ?_
    refine lv_icmp_eq (tgt := 11) hx hb dX7_kept_6 (by decide) (fun c5 => ?_) (fun c5 => ?_)
    · replace h := ite_t h c5
      refine lv_aload_n hx hb dX7_kept_11 rfl (lv_at hl 0 rfl) ?_
      refine va_get (D := (dC, dI)) (ci := 7) (v := .ref (a 7)) (C := RX7) (T := TX7) (N := 9) hx hb hts inX7_kept_X7 hown hK hP 0 (eC_0 a cy I A T) rfl 2 (by decide) (hts _ mX7_kept_0) (fun _ h9 => h9) rfl dX7_kept_12 ?_
      refine va_get (D := (dC, dI)) (ci := 3) (v := .ref (a 8)) (C := RX3) (T := TX3) (N := 6) hx hb hts inX7_kept_X3 hown hK hP 7 (eC_7 a cy I A T) rfl 0 (by decide) (hts _ mX7_kept_1) (fun _ h9 => h9) rfl dX7_kept_15 ?_
      refine va_get (D := (dC, dI)) (ci := 6) (v := .int (I 13)) (C := RX6) (T := TX6) (N := 6) hx hb hts inX7_kept_X6 hown hK hP 8 (eC_8 a cy I A T) rfl 3 (by decide) (hts _ mX7_kept_2) (fun _ h9 => h9) rfl dX7_kept_18 ?_
      refine lv_if_ne (tgt := 27) hx hb dX7_kept_21 (by decide) (fun c6 => ?_) (fun c6 => ?_)
      · replace h := ite_f h c6
        refine lv_iload_n hx hb dX7_kept_27 rfl (lv_at hl 1 rfl) ?_
        refine lv_if_ne (tgt := 41) hx hb dX7_kept_28 (by decide) (fun _ => ?_) (fun c7 => absurd c7 c1)
        refine lv_aload_n hx hb dX7_kept_41 rfl (lv_at hl 0 rfl) ?_
        refine va_get (D := (dC, dI)) (ci := 7) (v := .ref (a 23)) (C := RX7) (T := TX7) (N := 9) hx hb hts inX7_kept_X7 hown hK hP 0 (eC_0 a cy I A T) rfl 7 (by decide) (hts _ mX7_kept_3) (fun _ h9 => h9) rfl dX7_kept_42 ?_
        obtain ⟨r8, hr8, h⟩ := bnd_some h
        refine g_callVi (As := []) (rest := []) (ci := 2) (q0 := 23) hx hb hml hown hts (c_X2_first_C l dC dI a cy N I A T r8 hr8) (cwV 0 hts gX7_kept_X2_first rfl rfl rfl (by decide +kernel) ⟨Nat.le_of_ble_eq_true rfl, Nat.le_of_ble_eq_true rfl⟩) hK hP hD hS hA rfl (eC_23 a cy I A T) rfl rfl hl.1 rfl (Nat.le_of_ble_eq_true rfl) dX7_kept_45 (fun H locs hP hD hS => ?_)
        cases h
        exact g_iret hx hb hr hK hP hD hS hQ dX7_kept_48
      · replace h := ite_t h c6
        refine lv_bipush (v := (-9)) hx hb dX7_kept_24 (by decide) ?_
        cases h
        exact g_iret hx hb hr hK hP hD hS hQ dX7_kept_26
    · replace h := ite_f h c5
      refine lv_iconst (v := (-1)) hx hb dX7_kept_9 (by decide) ?_
      cases h
      exact g_iret hx hb hr hK hP hD hS hQ dX7_kept_10
def rm_X3_loss_Ct : Room := { frames := 3, cells := 0, slots := 0, locals := 210 }
def f_X3_loss_Ct_L16 (N : Nat) (k_16 : Int32 → Int32 → Option (Int32)) (x1 : Int32) (I : (Nat → Int32)) (A : (Nat → Nat → Int32)) : Nat → Int32 → Int32 → Option (Int32)
  | 0, _, _ => none
  | n_16 + 1, x4, x5 => (if (I 13) ≤ x5 then (k_16 x4 x5) else (if x5 = x1 then (f_X3_loss_Ct_L16 N k_16 x1 I A n_16 x4 (x5 + 1)) else (if x5 < 0 ∨ 6 ≤ x5.toNatClampNeg then none else (if x1 < 0 ∨ 6 ≤ x1.toNatClampNeg then none else (f_X3_loss_Ct_L16 N k_16 x1 I A n_16 (x4 + (-2)) (x5 + 1))))))
def f_X3_loss_Ct (N : Nat) (I : Nat → Int32) (A : Nat → Nat → Int32) (p1 : Int32) (p3 : Int32) : Option (Int32) := (if p1 < 0 ∨ 6 ≤ p1.toNatClampNeg then none else (f_X3_loss_Ct_L16 N (fun (x4 : Int32) (x5 : Int32) => some (iMax 1 x4)) p1 I A N (((A 5) p1.toNatClampNeg) + p3) 0))
set_option maxHeartbeats 4000000 in
set_option maxRecDepth 100000 in
theorem c_X3_loss_Ct (l : Launch) (dC : Nat → ClassId) (dI : Nat → Nat → Nat) (a : Nat → Nat) (cy : Nat → ClassId) (tb : Nat) (N : Nat) (I : Nat → Int32) (A : Nat → Nat → Int32) (T : Int64) (p1 : Int32) (p3 : Int32) (res : Int32) (h : f_X3_loss_Ct N I A p1 p3 = some res) (sz : Nat) : Met l yX3_loss wsX3_loss rm_X3_loss_Ct (g_PreT (dC, dI) cy tb [.ref (a 7), .int p1, .ref tb, .int p3] (wC a cy I A T) sz) (g_Qi (dC, dI) cy res (wC a cy I A T) (wC a cy I A T) sz) 0 0 (va_A (wC a cy I A T) sz) := by
  unfold f_X3_loss_Ct at h
  refine g_entryT _ _ _ _ _ _ _ (cc := cX3_loss) (maxL := 6) (ret := (some .int)) (by decide) rfl (Nat.le_of_ble_eq_true rfl) ?_
  intro p e s m args below meth c ls hx hb hml hown hts hr hlocks hA hK hP hD hS hl hT hZ Q hQ
  have hl : lv_has ls 6 [(0, .ref (a 7)), (1, .int p1), (2, .ref tb), (3, .int p3)] := hl
  have hown : s.vm.findClass RX3 = some m.cls := hown
  refine lv_aload_n hx hb dX3_loss_0 rfl (lv_at hl 0 rfl) ?_
  refine va_get (D := (dC, dI)) (ci := 3) (v := .ref (a 8)) (C := RX3) (T := TX3) (N := 6) hx hb hts inX3_loss_X3 hown hK hP 7 (eC_7 a cy I A T) rfl 0 (by decide) (hts _ mX3_loss_0) (fun _ h9 => h9) rfl dX3_loss_1 ?_
  refine va_get (D := (dC, dI)) (ci := 6) (v := .ref (a 10)) (C := RX6) (T := TX6) (N := 6) hx hb hts inX3_loss_X6 hown hK hP 8 (eC_8 a cy I A T) rfl 1 (by decide) (hts _ mX3_loss_1) (fun _ h9 => h9) rfl dX3_loss_4 ?_
  refine lv_iload_n hx hb dX3_loss_7 rfl (lv_at hl 1 rfl) ?_
  obtain ⟨i1, h⟩ := inb_some h
  refine g_iald (f := (A 5)) (j := p1.toNatClampNeg) hx hb hK hP 10 (eC_10 a cy I A T) i1 rfl dX3_loss_8 ?_
  refine lv_iload_n hx hb dX3_loss_9 rfl (lv_at hl 3 rfl) ?_
  refine lv_iadd hx hb dX3_loss_10 ?_
  refine lv_istore (lv' := [(4, .int (((A 5) p1.toNatClampNeg) + p3)), (0, .ref (a 7)), (1, .int p1), (2, .ref tb), (3, .int p3)]) hx hb dX3_loss_11 hl (by decide) rfl (fun ls hl => ?_)
  refine lv_iconst (v := 0) hx hb dX3_loss_13 (by decide) ?_
  refine lv_istore (lv' := [(5, .int 0), (4, .int (((A 5) p1.toNatClampNeg) + p3)), (0, .ref (a 7)), (1, .int p1), (2, .ref tb), (3, .int p3)]) hx hb dX3_loss_14 hl (by decide) rfl (fun ls hl => ?_)
  have lp16 : ∀ (x1 : Int32) (k_16 : Int32 → Int32 → Option (Int32)), (∀ (x4 : Int32) (x5 : Int32), k_16 x4 x5 = some res → g_At (dC, dI) p l e (headSpec wsX3_loss rm_X3_loss_Ct).room s m args below meth c Q (wC a cy I A T) sz 6 (wC a cy I A T) [(4, .int x4)] 53 []) → ∀ (n_16 : Nat) (x4 : Int32) (x5 : Int32), f_X3_loss_Ct_L16 N k_16 x1 I A n_16 x4 x5 = some res → g_At (dC, dI) p l e (headSpec wsX3_loss rm_X3_loss_Ct).room s m args below meth c Q (wC a cy I A T) sz 6 (wC a cy I A T) [(0, .ref (a 7)), (1, .int x1), (2, .ref tb), (4, .int x4), (5, .int x5)] 16 [] := by
    intro x1 k_16 hk_16 n_16
    induction n_16 with
    | zero =>
      intro x4 x5 h
      exact absurd h (by rw [f_X3_loss_Ct_L16]; exact fun q => by cases q)
    | succ n_16 ih16 =>
      intro x4 x5 h H locs hP hD hS ls hl
      rw [f_X3_loss_Ct_L16] at h
      refine lv_iload hx hb dX3_loss_16 (lv_at hl 4 rfl) ?_
      refine lv_aload_n hx hb dX3_loss_18 rfl (lv_at hl 0 rfl) ?_
      refine va_get (D := (dC, dI)) (ci := 3) (v := .ref (a 8)) (C := RX3) (T := TX3) (N := 6) hx hb hts inX3_loss_X3 hown hK hP 7 (eC_7 a cy I A T) rfl 0 (by decide) (hts _ mX3_loss_0) (fun _ h9 => h9) rfl dX3_loss_19 ?_
      refine va_get (D := (dC, dI)) (ci := 6) (v := .int (I 13)) (C := RX6) (T := TX6) (N := 6) hx hb hts inX3_loss_X6 hown hK hP 8 (eC_8 a cy I A T) rfl 3 (by decide) (hts _ mX3_loss_6) (fun _ h9 => h9) rfl dX3_loss_22 ?_
      refine lv_icmp_ge (tgt := 53) hx hb dX3_loss_25 (by decide) (fun c2 => ?_) (fun c2 => ?_)
      · replace h := ite_t h c2
        exact hk_16 _ _ h _ _ hP hD hS _ (lv_sub hl [3] rfl)
      · replace h := ite_f h c2
        refine lv_iload hx hb dX3_loss_28 (lv_at hl 4 rfl) ?_
        refine lv_iload_n hx hb dX3_loss_30 rfl (lv_at hl 1 rfl) ?_
        refine lv_icmp_eq (tgt := 47) hx hb dX3_loss_31 (by decide) (fun c3 => ?_) (fun c3 => ?_)
        · replace h := ite_t h c3
          refine lv_iinc (v := (x5 + 1)) (lv' := [(5, .int (x5 + 1)), (0, .ref (a 7)), (1, .int x1), (2, .ref tb), (4, .int x4)]) hx hb dX3_loss_47 hl (k := 4) rfl rfl (by decide) rfl (fun ls hl => ?_)
          refine lv_goto (tgt := 16) hx hb dX3_loss_50 (by decide) ?_
          exact ih16 _ _ h _ _ hP hD hS _ (lv_sub hl [1, 2, 3, 4, 0] rfl)
        · replace h := ite_f h c3
          refine lv_aload_n hx hb dX3_loss_34 rfl (lv_at hl 2 rfl) ?_
          refine lv_iload hx hb dX3_loss_35 (lv_at hl 4 rfl) ?_
          obtain ⟨i4, h⟩ := inb_some h
          refine va_ti hx hb hT hS i4 (v := .int 0) rfl dX3_loss_37 ?_
          refine lv_aload_n hx hb dX3_loss_38 rfl (lv_at hl 2 rfl) ?_
          refine lv_iload_n hx hb dX3_loss_39 rfl (lv_at hl 1 rfl) ?_
          obtain ⟨i5, h⟩ := inb_some h
          refine va_ti hx hb hT hS i5 (v := .int 0) rfl dX3_loss_40 ?_
          refine lv_icmp_ne (tgt := 47) hx hb dX3_loss_41 (by decide) (fun c6 => absurd (by decide) c6) (fun _ => ?_)
          refine lv_iinc (v := (x4 + (-2))) (lv' := [(4, .int (x4 + (-2))), (0, .ref (a 7)), (1, .int x1), (2, .ref tb), (5, .int x5)]) hx hb dX3_loss_44 hl (k := 3) rfl rfl (by decide) rfl (fun ls hl => ?_)
          refine lv_iinc (v := (x5 + 1)) (lv' := [(5, .int (x5 + 1)), (4, .int (x4 + (-2))), (0, .ref (a 7)), (1, .int x1), (2, .ref tb)]) hx hb dX3_loss_47 hl (k := 4) rfl rfl (by decide) rfl (fun ls hl => ?_)
          refine lv_goto (tgt := 16) hx hb dX3_loss_50 (by decide) ?_
          exact ih16 _ _ h _ _ hP hD hS _ (lv_sub hl [2, 3, 4, 1, 0] rfl)
  refine lp16 _ _ ?_ N _ _ h _ _ hP hD hS _ (lv_sub hl [2, 3, 4, 1, 0] rfl)
  intro x4 x5 h H locs hP hD hS ls hl
  refine lv_iconst (v := 1) hx hb dX3_loss_53 (by decide) ?_
  refine lv_iload hx hb dX3_loss_54 (lv_at hl 0 rfl) ?_
  refine g_mmax hx hb (hml.trans hl.1.symm) hown (hts _ mX3_loss_2) (hts _ mX3_loss_3) (hts _ mX3_loss_4) (hts _ mX3_loss_5) (Nat.le_of_ble_eq_true rfl) (Nat.le_of_ble_eq_true rfl) (Nat.zero_le _) (Nat.zero_le _) dX3_loss_56 ?_
  cases h
  exact g_iret hx hb hr hK hP hD hS hQ dX3_loss_59
def rm_X3_lasts_Ct : Room := { frames := 5, cells := 0, slots := 0, locals := 270 }
def f_X3_lasts_Ct (N : Nat) (I : Nat → Int32) (A : Nat → Nat → Int32) (p1 : Int32) : Option (Int32) := (Option.bind (f_X3_loss_Ct N I A p1 (I 11)) (fun r1 => (if r1 ≤ 0 then some 99 else (if p1 < 0 ∨ 6 ≤ p1.toNatClampNeg then none else (if r1 = 0 then none else some (((((A 7) p1.toNatClampNeg) + r1) - 1) / r1))))))
set_option maxHeartbeats 4000000 in
set_option maxRecDepth 100000 in
theorem c_X3_lasts_Ct (l : Launch) (dC : Nat → ClassId) (dI : Nat → Nat → Nat) (a : Nat → Nat) (cy : Nat → ClassId) (tb : Nat) (N : Nat) (I : Nat → Int32) (A : Nat → Nat → Int32) (T : Int64) (p1 : Int32) (res : Int32) (h : f_X3_lasts_Ct N I A p1 = some res) (sz : Nat) : Met l yX3_lasts wsX3_lasts rm_X3_lasts_Ct (g_PreT (dC, dI) cy tb [.ref (a 7), .int p1, .ref tb] (wC a cy I A T) sz) (g_Qi (dC, dI) cy res (wC a cy I A T) (wC a cy I A T) sz) 0 0 (va_A (wC a cy I A T) sz) := by
  unfold f_X3_lasts_Ct at h
  refine g_entryT _ _ _ _ _ _ _ (cc := cX3_lasts) (maxL := 4) (ret := (some .int)) (by decide) rfl (Nat.le_of_ble_eq_true rfl) ?_
  intro p e s m args below meth c ls hx hb hml hown hts hr hlocks hA hK hP hD hS hl hT hZ Q hQ
  have hl : lv_has ls 4 [(0, .ref (a 7)), (1, .int p1), (2, .ref tb)] := hl
  have hown : s.vm.findClass RX3 = some m.cls := hown
  refine lv_aload_n hx hb dX3_lasts_0 rfl (lv_at hl 0 rfl) ?_
  refine lv_iload_n hx hb dX3_lasts_1 rfl (lv_at hl 1 rfl) ?_
  refine lv_aload_n hx hb dX3_lasts_2 rfl (lv_at hl 2 rfl) ?_
  refine lv_aload_n hx hb dX3_lasts_3 rfl (lv_at hl 0 rfl) ?_
  refine va_get (D := (dC, dI)) (ci := 3) (v := .int (I 11)) (C := RX3) (T := TX3) (N := 6) hx hb hts inX3_lasts_X3 hown hK hP 7 (eC_7 a cy I A T) rfl 4 (by decide) (hts _ mX3_lasts_0) (fun _ h9 => h9) rfl dX3_lasts_4 ?_
  obtain ⟨r1, hr1, h⟩ := bnd_some h
  refine g_callViT (As := [.int p1, .ref tb, .int (I 11)]) (rest := []) (ci := 3) (q0 := 7) hx hb hml hown hts (c_X3_loss_Ct l dC dI a cy tb N I A T p1 (I 11) r1 hr1) (cwV 3 hts gX3_lasts_X3_loss rfl rfl rfl (by decide +kernel) ⟨Nat.le_of_ble_eq_true rfl, Nat.le_of_ble_eq_true rfl⟩) hK hP hD hS hA hT hZ rfl (eC_7 a cy I A T) rfl rfl hl.1 rfl (Nat.le_of_ble_eq_true rfl) dX3_lasts_7 (fun H locs hP hD hS => ?_)
  refine lv_istore_n (lv' := [(3, .int r1), (0, .ref (a 7)), (1, .int p1), (2, .ref tb)]) hx hb dX3_lasts_10 rfl hl (by decide) rfl (fun ls hl => ?_)
  refine lv_iload_n hx hb dX3_lasts_11 rfl (lv_at hl 0 rfl) ?_
  refine lv_if_le (tgt := 30) hx hb dX3_lasts_12 (by decide) (fun c2 => ?_) (fun c2 => ?_)
  · replace h := ite_t h c2
    refine lv_bipush (v := 99) hx hb dX3_lasts_30 (by decide) ?_
    cases h
    exact g_iret hx hb hr hK hP hD hS hQ dX3_lasts_32
  · replace h := ite_f h c2
    refine lv_aload_n hx hb dX3_lasts_15 rfl (lv_at hl 1 rfl) ?_
    refine va_get (D := (dC, dI)) (ci := 3) (v := .ref (a 12)) (C := RX3) (T := TX3) (N := 6) hx hb hts inX3_lasts_X3 hown hK hP 7 (eC_7 a cy I A T) rfl 1 (by decide) (hts _ mX3_lasts_1) (fun _ h9 => h9) rfl dX3_lasts_16 ?_
    refine lv_iload_n hx hb dX3_lasts_19 rfl (lv_at hl 2 rfl) ?_
    obtain ⟨i3, h⟩ := inb_some h
    refine g_iald (f := (A 7)) (j := p1.toNatClampNeg) hx hb hK hP 12 (eC_12 a cy I A T) i3 rfl dX3_lasts_20 ?_
    refine lv_iload_n hx hb dX3_lasts_21 rfl (lv_at hl 0 rfl) ?_
    refine lv_iadd hx hb dX3_lasts_22 ?_
    refine lv_iconst (v := 1) hx hb dX3_lasts_23 (by decide) ?_
    refine lv_isub hx hb dX3_lasts_24 ?_
    refine lv_iload_n hx hb dX3_lasts_25 rfl (lv_at hl 0 rfl) ?_
    obtain ⟨z4, h⟩ := nz_some h
    refine lv_idiv hx hb dX3_lasts_26 z4 ?_
    refine lv_goto (tgt := 32) hx hb dX3_lasts_27 (by decide) ?_
    cases h
    exact g_iret hx hb hr hK hP hD hS hQ dX3_lasts_32
def rm_X3_allLast_Ct : Room := { frames := 7, cells := 0, slots := 0, locals := 330 }
def f_X3_allLast_Ct_L5 (N : Nat) (k_5 : Int32 → Int32 → Option (Int32)) (I : (Nat → Int32)) (A : (Nat → Nat → Int32)) : Nat → Int32 → Int32 → Option (Int32)
  | 0, _, _ => none
  | n_5 + 1, x2, x3 => (if (I 13) ≤ x3 then (k_5 x2 x3) else (Option.bind (f_X3_lasts_Ct N I A x3) (fun r2 => (f_X3_allLast_Ct_L5 N k_5 I A n_5 (iMin x2 r2) (x3 + 1)))))
def f_X3_allLast_Ct (N : Nat) (I : Nat → Int32) (A : Nat → Nat → Int32)  : Option (Int32) := (f_X3_allLast_Ct_L5 N (fun (x2 : Int32) (x3 : Int32) => some x2) I A N 99 0)
set_option maxHeartbeats 4000000 in
set_option maxRecDepth 100000 in
theorem c_X3_allLast_Ct (l : Launch) (dC : Nat → ClassId) (dI : Nat → Nat → Nat) (a : Nat → Nat) (cy : Nat → ClassId) (tb : Nat) (N : Nat) (I : Nat → Int32) (A : Nat → Nat → Int32) (T : Int64)  (res : Int32) (h : f_X3_allLast_Ct N I A  = some res) (sz : Nat) : Met l yX3_allLast wsX3_allLast rm_X3_allLast_Ct (g_PreT (dC, dI) cy tb [.ref (a 7), .ref tb] (wC a cy I A T) sz) (g_Qi (dC, dI) cy res (wC a cy I A T) (wC a cy I A T) sz) 0 0 (va_A (wC a cy I A T) sz) := by
  unfold f_X3_allLast_Ct at h
  refine g_entryT _ _ _ _ _ _ _ (cc := cX3_allLast) (maxL := 4) (ret := (some .int)) (by decide) rfl (Nat.le_of_ble_eq_true rfl) ?_
  intro p e s m args below meth c ls hx hb hml hown hts hr hlocks hA hK hP hD hS hl hT hZ Q hQ
  have hl : lv_has ls 4 [(0, .ref (a 7)), (1, .ref tb)] := hl
  have hown : s.vm.findClass RX3 = some m.cls := hown
  refine lv_bipush (v := 99) hx hb dX3_allLast_0 (by decide) ?_
  refine lv_istore_n (lv' := [(2, .int 99), (0, .ref (a 7)), (1, .ref tb)]) hx hb dX3_allLast_2 rfl hl (by decide) rfl (fun ls hl => ?_)
  refine lv_iconst (v := 0) hx hb dX3_allLast_3 (by decide) ?_
  refine lv_istore_n (lv' := [(3, .int 0), (2, .int 99), (0, .ref (a 7)), (1, .ref tb)]) hx hb dX3_allLast_4 rfl hl (by decide) rfl (fun ls hl => ?_)
  have lp5 : ∀  (k_5 : Int32 → Int32 → Option (Int32)), (∀ (x2 : Int32) (x3 : Int32), k_5 x2 x3 = some res → g_At (dC, dI) p l e (headSpec wsX3_allLast rm_X3_allLast_Ct).room s m args below meth c Q (wC a cy I A T) sz 4 (wC a cy I A T) [(2, .int x2)] 33 []) → ∀ (n_5 : Nat) (x2 : Int32) (x3 : Int32), f_X3_allLast_Ct_L5 N k_5 I A n_5 x2 x3 = some res → g_At (dC, dI) p l e (headSpec wsX3_allLast rm_X3_allLast_Ct).room s m args below meth c Q (wC a cy I A T) sz 4 (wC a cy I A T) [(0, .ref (a 7)), (1, .ref tb), (2, .int x2), (3, .int x3)] 5 [] := by
    intro  k_5 hk_5 n_5
    induction n_5 with
    | zero =>
      intro x2 x3 h
      exact absurd h (by rw [f_X3_allLast_Ct_L5]; exact fun q => by cases q)
    | succ n_5 ih5 =>
      intro x2 x3 h H locs hP hD hS ls hl
      rw [f_X3_allLast_Ct_L5] at h
      refine lv_iload_n hx hb dX3_allLast_5 rfl (lv_at hl 3 rfl) ?_
      refine lv_aload_n hx hb dX3_allLast_6 rfl (lv_at hl 0 rfl) ?_
      refine va_get (D := (dC, dI)) (ci := 3) (v := .ref (a 8)) (C := RX3) (T := TX3) (N := 6) hx hb hts inX3_allLast_X3 hown hK hP 7 (eC_7 a cy I A T) rfl 0 (by decide) (hts _ mX3_allLast_0) (fun _ h9 => h9) rfl dX3_allLast_7 ?_
      refine va_get (D := (dC, dI)) (ci := 6) (v := .int (I 13)) (C := RX6) (T := TX6) (N := 6) hx hb hts inX3_allLast_X6 hown hK hP 8 (eC_8 a cy I A T) rfl 3 (by decide) (hts _ mX3_allLast_1) (fun _ h9 => h9) rfl dX3_allLast_10 ?_
      refine lv_icmp_ge (tgt := 33) hx hb dX3_allLast_13 (by decide) (fun c1 => ?_) (fun c1 => ?_)
      · replace h := ite_t h c1
        exact hk_5 _ _ h _ _ hP hD hS _ (lv_sub hl [2] rfl)
      · replace h := ite_f h c1
        refine lv_iload_n hx hb dX3_allLast_16 rfl (lv_at hl 2 rfl) ?_
        refine lv_aload_n hx hb dX3_allLast_17 rfl (lv_at hl 0 rfl) ?_
        refine lv_iload_n hx hb dX3_allLast_18 rfl (lv_at hl 3 rfl) ?_
        refine lv_aload_n hx hb dX3_allLast_19 rfl (lv_at hl 1 rfl) ?_
        obtain ⟨r2, hr2, h⟩ := bnd_some h
        refine g_callViT (As := [.int x3, .ref tb]) (rest := [.int x2]) (ci := 3) (q0 := 7) hx hb hml hown hts (c_X3_lasts_Ct l dC dI a cy tb N I A T x3 r2 hr2) (cwV 2 hts gX3_allLast_X3_lasts rfl rfl rfl (by decide +kernel) ⟨Nat.le_of_ble_eq_true rfl, Nat.le_of_ble_eq_true rfl⟩) hK hP hD hS hA hT hZ rfl (eC_7 a cy I A T) rfl rfl hl.1 rfl (Nat.le_of_ble_eq_true rfl) dX3_allLast_20 (fun H locs hP hD hS => ?_)
        refine g_mmin hx hb (hml.trans hl.1.symm) hown (hts _ mX3_allLast_2) (hts _ mX3_allLast_3) (hts _ mX3_allLast_4) (hts _ mX3_allLast_5) (Nat.le_of_ble_eq_true rfl) (Nat.le_of_ble_eq_true rfl) (Nat.zero_le _) (Nat.zero_le _) dX3_allLast_23 ?_
        refine lv_istore_n (lv' := [(2, .int (iMin x2 r2)), (0, .ref (a 7)), (1, .ref tb), (3, .int x3)]) hx hb dX3_allLast_26 rfl hl (by decide) rfl (fun ls hl => ?_)
        refine lv_iinc (v := (x3 + 1)) (lv' := [(3, .int (x3 + 1)), (2, .int (iMin x2 r2)), (0, .ref (a 7)), (1, .ref tb)]) hx hb dX3_allLast_27 hl (k := 3) rfl rfl (by decide) rfl (fun ls hl => ?_)
        refine lv_goto (tgt := 5) hx hb dX3_allLast_30 (by decide) ?_
        exact ih5 _ _ h _ _ hP hD hS _ (lv_sub hl [2, 3, 1, 0] rfl)
  refine lp5  _ ?_ N _ _ h _ _ hP hD hS _ (lv_sub hl [2, 3, 1, 0] rfl)
  intro x2 x3 h H locs hP hD hS ls hl
  refine lv_iload_n hx hb dX3_allLast_33 rfl (lv_at hl 0 rfl) ?_
  cases h
  exact g_iret hx hb hr hK hP hD hS hQ dX3_allLast_34
