theorem inX8_isWay_X8 : ∀ w ∈ u_ws RX8 TX8 19, w ∈ wsX8_isWay := by decide +kernel
theorem mX8_isWay_0 : Cond.fieldLink RX8 13 "WarmBottlesModel" "told" "[I" ∈ wsX8_isWay := List.mem_of_getElem? (i := 1) rfl
theorem mX8_isWay_1 : Cond.fieldLink RX8 38 "WarmBottlesModel" "row" "[I" ∈ wsX8_isWay := List.mem_of_getElem? (i := 2) rfl
def rm_X8_isWay_M : Room := { frames := 3, cells := 0, slots := 0, locals := 210 }
def f_X8_isWay_M_L44 (N : Nat) (k_44 : Int32 → Int32 → Int32 → Option (Int32 × (Nat → Nat → Int32))) (I : (Nat → Int32)) (A_44 : (Nat → Nat → Int32)) : Nat → Int32 → Int32 → Int32 → Option (Int32 × (Nat → Nat → Int32))
  | 0, _, _, _ => none
  | n_44 + 1, x3, x4, x5 => (if ((A_44 1) 0) ≤ x5 then (k_44 x3 x4 x5) else (if x4 = 0 then (if x5 < 0 ∨ 6 ≤ x5.toNatClampNeg then none else (if ((A_44 9) x5.toNatClampNeg) = x3 then (f_X8_isWay_M_L44 N k_44 I A_44 n_44 (x3 + 1) 0 (x5 + 1)) else (f_X8_isWay_M_L44 N k_44 I A_44 n_44 x3 0 (x5 + 1)))) else (if x5 < 0 ∨ 6 ≤ x5.toNatClampNeg then none else (if x3 < ((A_44 9) x5.toNatClampNeg) then (if ((A_44 9) x5.toNatClampNeg) = x3 then (f_X8_isWay_M_L44 N k_44 I A_44 n_44 (x3 + 1) 0 (x5 + 1)) else (f_X8_isWay_M_L44 N k_44 I A_44 n_44 x3 0 (x5 + 1))) else (if ((A_44 9) x5.toNatClampNeg) = x3 then (f_X8_isWay_M_L44 N k_44 I A_44 n_44 (x3 + 1) 1 (x5 + 1)) else (f_X8_isWay_M_L44 N k_44 I A_44 n_44 x3 1 (x5 + 1)))))))
def f_X8_isWay_M_L11 (N : Nat) (k_11 : Int32 → Int32 → (Nat → Nat → Int32) → Option (Int32 × (Nat → Nat → Int32))) (I : (Nat → Int32)) : Nat → Int32 → Int32 → (Nat → Nat → Int32) → Option (Int32 × (Nat → Nat → Int32))
  | 0, _, _, _ => none
  | n_11 + 1, x2, x3, A_11 => (if x3 < 0 then (k_11 x2 x3 A_11) else (if x3 < 0 ∨ 6 ≤ x3.toNatClampNeg then none else (f_X8_isWay_M_L11 N k_11 I n_11 (x2 / 6) (x3 + (-1)) (va_up A_11 9 (upd (A_11 9) x3.toNatClampNeg (x2 - x2 / 6 * 6))))))
def f_X8_isWay_M (N : Nat) (I : Nat → Int32) (A : Nat → Nat → Int32) (p1 : Int32) : Option (Int32 × (Nat → Nat → Int32)) := (f_X8_isWay_M_L11 N (fun (x2 : Int32) (x3 : Int32) (A_11 : (Nat → Nat → Int32)) => (f_X8_isWay_M_L44 N (fun (x3 : Int32) (x4 : Int32) (x5 : Int32) => (if x4 = 0 ∨ x4 = 1 then some (x4, A_11) else none)) I A_11 N 0 1 0)) I N p1 (((A 1) 0) - 1) A)
set_option maxHeartbeats 4000000 in
set_option maxRecDepth 100000 in
theorem c_X8_isWay_M (l : Launch) (dC : Nat → ClassId) (dI : Nat → Nat → Nat) (a : Nat → Nat) (cy : Nat → ClassId) (N : Nat) (I : Nat → Int32) (A : Nat → Nat → Int32) (T : Int64) (p1 : Int32) (res : Int32 × (Nat → Nat → Int32)) (h : f_X8_isWay_M N I A p1 = some res) (sz : Nat) : Met l yX8_isWay wsX8_isWay rm_X8_isWay_M (g_Pre (dC, dI) cy [.ref (a 0), .int p1] (wM a cy I A T) sz) (g_Qi (dC, dI) cy res.1 (wM a cy I A T) (wM a cy I res.2 T) sz) 0 0 (va_A (wM a cy I A T) sz) := by
  unfold f_X8_isWay_M at h
  refine g_entry _ _ _ _ _ _ (cc := cX8_isWay) (maxL := 6) (ret := (some .boolean)) (by decide) rfl (Nat.le_of_ble_eq_true rfl) ?_
  intro p e s m args below meth c ls hx hb hml hown hts hr hlocks hA hK hP hD hS hl Q hQ
  have hl : lv_has ls 6 [(0, .ref (a 0)), (1, .int p1)] := hl
  have hown : s.vm.findClass RX8 = some m.cls := hown
  refine lv_iload_n hx hb dX8_isWay_0 rfl (lv_at hl 1 rfl) ?_
  refine lv_istore_n (lv' := [(2, .int p1), (0, .ref (a 0)), (1, .int p1)]) hx hb dX8_isWay_1 rfl hl (by decide) rfl (fun ls hl => ?_)
  refine lv_aload_n hx hb dX8_isWay_2 rfl (lv_at hl 1 rfl) ?_
  refine va_get (D := (dC, dI)) (ci := 8) (v := .ref (a 2)) (C := RX8) (T := TX8) (N := 19) hx hb hts inX8_isWay_X8 hown hK hP 0 (eM_0 a cy I A T) rfl 3 (by decide) (hts _ mX8_isWay_0) (fun _ h9 => h9) rfl dX8_isWay_3 ?_
  refine lv_iconst (v := 0) hx hb dX8_isWay_6 (by decide) ?_
  refine g_iald (f := (A 1)) (j := 0) hx hb hK hP 2 (eM_2 a cy I A T) (lit_in (by decide) : vp_in 0 23) rfl dX8_isWay_7 ?_
  refine lv_iconst (v := 1) hx hb dX8_isWay_8 (by decide) ?_
  refine lv_isub hx hb dX8_isWay_9 ?_
  refine lv_istore_n (lv' := [(3, .int (((A 1) 0) - 1)), (2, .int p1), (0, .ref (a 0)), (1, .int p1)]) hx hb dX8_isWay_10 rfl hl (by decide) rfl (fun ls hl => ?_)
  have lp11 : ∀  (k_11 : Int32 → Int32 → (Nat → Nat → Int32) → Option (Int32 × (Nat → Nat → Int32))), (∀ (x2 : Int32) (x3 : Int32) (A_11 : (Nat → Nat → Int32)), k_11 x2 x3 A_11 = some res → g_At (dC, dI) p l e (headSpec wsX8_isWay rm_X8_isWay_M).room s m args below meth c Q (wM a cy I A T) sz 6 (wM a cy I A_11 T) [(0, .ref (a 0))] 36 []) → ∀ (n_11 : Nat) (x2 : Int32) (x3 : Int32) (A_11 : (Nat → Nat → Int32)), f_X8_isWay_M_L11 N k_11 I n_11 x2 x3 A_11 = some res → g_At (dC, dI) p l e (headSpec wsX8_isWay rm_X8_isWay_M).room s m args below meth c Q (wM a cy I A T) sz 6 (wM a cy I A_11 T) [(0, .ref (a 0)), (2, .int x2), (3, .int x3)] 11 [] := by
    intro  k_11 hk_11 n_11
    induction n_11 with
    | zero =>
      intro x2 x3 A_11 h
      exact absurd h (by rw [f_X8_isWay_M_L11]; exact fun q => by cases q)
    | succ n_11 ih11 =>
      intro x2 x3 A_11 h H locs hP hD hS ls hl
      rw [f_X8_isWay_M_L11] at h
      refine lv_iload_n hx hb dX8_isWay_11 rfl (lv_at hl 2 rfl) ?_
      refine lv_if_lt (tgt := 36) hx hb dX8_isWay_12 (by decide) (fun c10 => ?_) (fun c10 => ?_)
      · replace h := ite_t h c10
        exact hk_11 _ _ _ h _ _ hP hD hS _ (lv_sub hl [0] rfl)
      · replace h := ite_f h c10
        refine lv_aload_n hx hb dX8_isWay_15 rfl (lv_at hl 0 rfl) ?_
        refine va_get (D := (dC, dI)) (ci := 8) (v := .ref (a 10)) (C := RX8) (T := TX8) (N := 19) hx hb hts inX8_isWay_X8 hown hK hP 0 (eM_0 a cy I A_11 T) rfl 17 (by decide) (hts _ mX8_isWay_1) (fun _ h9 => h9) rfl dX8_isWay_16 ?_
        refine lv_iload_n hx hb dX8_isWay_19 rfl (lv_at hl 2 rfl) ?_
        refine lv_iload_n hx hb dX8_isWay_20 rfl (lv_at hl 1 rfl) ?_
        refine lv_bipush (v := 6) hx hb dX8_isWay_21 (by decide) ?_
        refine lv_irem hx hb dX8_isWay_23 (by decide) ?_
        obtain ⟨i11, h⟩ := inb_some h
        refine g_iast (f := (A_11 9)) (j := x3.toNatClampNeg) hx hb hK hP hD hS 10 (eM_10 a cy I A_11 T) i11 rfl dX8_isWay_24 (sM_10 a cy I A_11 T (upd (A_11 9) x3.toNatClampNeg (x2 - x2 / 6 * 6))) (fun H locs hP hD hS => ?_)
        refine lv_iload_n hx hb dX8_isWay_25 rfl (lv_at hl 1 rfl) ?_
        refine lv_bipush (v := 6) hx hb dX8_isWay_26 (by decide) ?_
        refine lv_idiv hx hb dX8_isWay_28 (by decide) ?_
        refine lv_istore_n (lv' := [(2, .int (x2 / 6)), (0, .ref (a 0)), (3, .int x3)]) hx hb dX8_isWay_29 rfl hl (by decide) rfl (fun ls hl => ?_)
        refine lv_iinc (v := (x3 + (-1))) (lv' := [(3, .int (x3 + (-1))), (2, .int (x2 / 6)), (0, .ref (a 0))]) hx hb dX8_isWay_30 hl (k := 2) rfl rfl (by decide) rfl (fun ls hl => ?_)
        refine lv_goto (tgt := 11) hx hb dX8_isWay_33 (by decide) ?_
        exact ih11 _ _ _ h _ _ hP hD hS _ (lv_sub hl [2, 1, 0] rfl)
  refine lp11  _ ?_ N _ _ _ h _ _ hP hD hS _ (lv_sub hl [2, 1, 0] rfl)
  intro x2 x3 A_11 h H locs hP hD hS ls hl
  refine lv_iconst (v := 0) hx hb dX8_isWay_36 (by decide) ?_
  refine lv_istore_n (lv' := [(3, .int 0), (0, .ref (a 0))]) hx hb dX8_isWay_37 rfl hl (by decide) rfl (fun ls hl => ?_)
  refine lv_iconst (v := 1) hx hb dX8_isWay_38 (by decide) ?_
  refine lv_istore (lv' := [(4, .int 1), (3, .int 0), (0, .ref (a 0))]) hx hb dX8_isWay_39 hl (by decide) rfl (fun ls hl => ?_)
  refine lv_iconst (v := 0) hx hb dX8_isWay_41 (by decide) ?_
  refine lv_istore (lv' := [(5, .int 0), (4, .int 1), (3, .int 0), (0, .ref (a 0))]) hx hb dX8_isWay_42 hl (by decide) rfl (fun ls hl => ?_)
  have lp44 : ∀ (A_44 : (Nat → Nat → Int32)) (k_44 : Int32 → Int32 → Int32 → Option (Int32 × (Nat → Nat → Int32))), (∀ (x3 : Int32) (x4 : Int32) (x5 : Int32), k_44 x3 x4 x5 = some res → g_At (dC, dI) p l e (headSpec wsX8_isWay rm_X8_isWay_M).room s m args below meth c Q (wM a cy I A T) sz 6 (wM a cy I A_44 T) [(4, .int x4)] 103 []) → ∀ (n_44 : Nat) (x3 : Int32) (x4 : Int32) (x5 : Int32), f_X8_isWay_M_L44 N k_44 I A_44 n_44 x3 x4 x5 = some res → g_At (dC, dI) p l e (headSpec wsX8_isWay rm_X8_isWay_M).room s m args below meth c Q (wM a cy I A T) sz 6 (wM a cy I A_44 T) [(0, .ref (a 0)), (3, .int x3), (4, .int x4), (5, .int x5)] 44 [] := by
    intro A_44 k_44 hk_44 n_44
    induction n_44 with
    | zero =>
      intro x3 x4 x5 h
      exact absurd h (by rw [f_X8_isWay_M_L44]; exact fun q => by cases q)
    | succ n_44 ih44 =>
      intro x3 x4 x5 h H locs hP hD hS ls hl
      rw [f_X8_isWay_M_L44] at h
      refine lv_iload hx hb dX8_isWay_44 (lv_at hl 3 rfl) ?_
      refine lv_aload_n hx hb dX8_isWay_46 rfl (lv_at hl 0 rfl) ?_
      refine va_get (D := (dC, dI)) (ci := 8) (v := .ref (a 2)) (C := RX8) (T := TX8) (N := 19) hx hb hts inX8_isWay_X8 hown hK hP 0 (eM_0 a cy I A_44 T) rfl 3 (by decide) (hts _ mX8_isWay_0) (fun _ h9 => h9) rfl dX8_isWay_47 ?_
      refine lv_iconst (v := 0) hx hb dX8_isWay_50 (by decide) ?_
      refine g_iald (f := (A_44 1)) (j := 0) hx hb hK hP 2 (eM_2 a cy I A_44 T) (lit_in (by decide) : vp_in 0 23) rfl dX8_isWay_51 ?_
      refine lv_icmp_ge (tgt := 103) hx hb dX8_isWay_52 (by decide) (fun c2 => ?_) (fun c2 => ?_)
      · replace h := ite_t h c2
        exact hk_44 _ _ _ h _ _ hP hD hS _ (lv_sub hl [2] rfl)
      · replace h := ite_f h c2
        refine lv_iload hx hb dX8_isWay_55 (lv_at hl 2 rfl) ?_
        refine lv_if_eq (tgt := 75) hx hb dX8_isWay_57 (by decide) (fun c3 => ?_) (fun c3 => ?_)
        · replace h := ite_t h c3
          refine lv_iconst (v := 0) hx hb dX8_isWay_75 (by decide) ?_
          refine lv_istore (lv' := [(4, .int 0), (0, .ref (a 0)), (3, .int x3), (5, .int x5)]) hx hb dX8_isWay_76 hl (by decide) rfl (fun ls hl => ?_)
          refine lv_aload_n hx hb dX8_isWay_78 rfl (lv_at hl 1 rfl) ?_
          refine va_get (D := (dC, dI)) (ci := 8) (v := .ref (a 10)) (C := RX8) (T := TX8) (N := 19) hx hb hts inX8_isWay_X8 hown hK hP 0 (eM_0 a cy I A_44 T) rfl 17 (by decide) (hts _ mX8_isWay_1) (fun _ h9 => h9) rfl dX8_isWay_79 ?_
          refine lv_iload hx hb dX8_isWay_82 (lv_at hl 3 rfl) ?_
          obtain ⟨i4, h⟩ := inb_some h
          refine g_iald (f := (A_44 9)) (j := x5.toNatClampNeg) hx hb hK hP 10 (eM_10 a cy I A_44 T) i4 rfl dX8_isWay_84 ?_
          refine lv_iload_n hx hb dX8_isWay_85 rfl (lv_at hl 2 rfl) ?_
          refine lv_icmp_ne (tgt := 95) hx hb dX8_isWay_86 (by decide) (fun c5 => ?_) (fun c5 => ?_)
          · replace h := ite_f h c5
            refine lv_iload_n hx hb dX8_isWay_95 rfl (lv_at hl 2 rfl) ?_
            refine lv_istore_n (lv' := [(3, .int x3), (4, .int 0), (0, .ref (a 0)), (5, .int x5)]) hx hb dX8_isWay_96 rfl hl (by decide) rfl (fun ls hl => ?_)
            refine lv_iinc (v := (x5 + 1)) (lv' := [(5, .int (x5 + 1)), (3, .int x3), (4, .int 0), (0, .ref (a 0))]) hx hb dX8_isWay_97 hl (k := 3) rfl rfl (by decide) rfl (fun ls hl => ?_)
            refine lv_goto (tgt := 44) hx hb dX8_isWay_100 (by decide) ?_
            exact ih44 _ _ _ h _ _ hP hD hS _ (lv_sub hl [3, 1, 2, 0] rfl)
          · replace h := ite_t h c5
            refine lv_iload_n hx hb dX8_isWay_89 rfl (lv_at hl 2 rfl) ?_
            refine lv_iconst (v := 1) hx hb dX8_isWay_90 (by decide) ?_
            refine lv_iadd hx hb dX8_isWay_91 ?_
            refine lv_goto (tgt := 96) hx hb dX8_isWay_92 (by decide) ?_
            refine lv_istore_n (lv' := [(3, .int (x3 + 1)), (4, .int 0), (0, .ref (a 0)), (5, .int x5)]) hx hb dX8_isWay_96 rfl hl (by decide) rfl (fun ls hl => ?_)
            refine lv_iinc (v := (x5 + 1)) (lv' := [(5, .int (x5 + 1)), (3, .int (x3 + 1)), (4, .int 0), (0, .ref (a 0))]) hx hb dX8_isWay_97 hl (k := 3) rfl rfl (by decide) rfl (fun ls hl => ?_)
            refine lv_goto (tgt := 44) hx hb dX8_isWay_100 (by decide) ?_
            exact ih44 _ _ _ h _ _ hP hD hS _ (lv_sub hl [3, 1, 2, 0] rfl)
        · replace h := ite_f h c3
          refine lv_aload_n hx hb dX8_isWay_60 rfl (lv_at hl 0 rfl) ?_
          refine va_get (D := (dC, dI)) (ci := 8) (v := .ref (a 10)) (C := RX8) (T := TX8) (N := 19) hx hb hts inX8_isWay_X8 hown hK hP 0 (eM_0 a cy I A_44 T) rfl 17 (by decide) (hts _ mX8_isWay_1) (fun _ h9 => h9) rfl dX8_isWay_61 ?_
          refine lv_iload hx hb dX8_isWay_64 (lv_at hl 3 rfl) ?_
          obtain ⟨i6, h⟩ := inb_some h
          refine g_iald (f := (A_44 9)) (j := x5.toNatClampNeg) hx hb hK hP 10 (eM_10 a cy I A_44 T) i6 rfl dX8_isWay_66 ?_
          refine lv_iload_n hx hb dX8_isWay_67 rfl (lv_at hl 1 rfl) ?_
          refine lv_icmp_gt (tgt := 75) hx hb dX8_isWay_68 (by decide) (fun c7 => ?_) (fun c7 => ?_)
          · replace h := ite_t h c7
            refine lv_iconst (v := 0) hx hb dX8_isWay_75 (by decide) ?_
            refine lv_istore (lv' := [(4, .int 0), (0, .ref (a 0)), (3, .int x3), (5, .int x5)]) hx hb dX8_isWay_76 hl (by decide) rfl (fun ls hl => ?_)
            refine lv_aload_n hx hb dX8_isWay_78 rfl (lv_at hl 1 rfl) ?_
            refine va_get (D := (dC, dI)) (ci := 8) (v := .ref (a 10)) (C := RX8) (T := TX8) (N := 19) hx hb hts inX8_isWay_X8 hown hK hP 0 (eM_0 a cy I A_44 T) rfl 17 (by decide) (hts _ mX8_isWay_1) (fun _ h9 => h9) rfl dX8_isWay_79 ?_
            refine lv_iload hx hb dX8_isWay_82 (lv_at hl 3 rfl) ?_
            refine g_iald (f := (A_44 9)) (j := x5.toNatClampNeg) hx hb hK hP 10 (eM_10 a cy I A_44 T) i6 rfl dX8_isWay_84 ?_
            refine lv_iload_n hx hb dX8_isWay_85 rfl (lv_at hl 2 rfl) ?_
            refine lv_icmp_ne (tgt := 95) hx hb dX8_isWay_86 (by decide) (fun c8 => ?_) (fun c8 => ?_)
            · replace h := ite_f h c8
              refine lv_iload_n hx hb dX8_isWay_95 rfl (lv_at hl 2 rfl) ?_
              refine lv_istore_n (lv' := [(3, .int x3), (4, .int 0), (0, .ref (a 0)), (5, .int x5)]) hx hb dX8_isWay_96 rfl hl (by decide) rfl (fun ls hl => ?_)
              refine lv_iinc (v := (x5 + 1)) (lv' := [(5, .int (x5 + 1)), (3, .int x3), (4, .int 0), (0, .ref (a 0))]) hx hb dX8_isWay_97 hl (k := 3) rfl rfl (by decide) rfl (fun ls hl => ?_)
              refine lv_goto (tgt := 44) hx hb dX8_isWay_100 (by decide) ?_
              exact ih44 _ _ _ h _ _ hP hD hS _ (lv_sub hl [3, 1, 2, 0] rfl)
            · replace h := ite_t h c8
              refine lv_iload_n hx hb dX8_isWay_89 rfl (lv_at hl 2 rfl) ?_
              refine lv_iconst (v := 1) hx hb dX8_isWay_90 (by decide) ?_
              refine lv_iadd hx hb dX8_isWay_91 ?_
              refine lv_goto (tgt := 96) hx hb dX8_isWay_92 (by decide) ?_
              refine lv_istore_n (lv' := [(3, .int (x3 + 1)), (4, .int 0), (0, .ref (a 0)), (5, .int x5)]) hx hb dX8_isWay_96 rfl hl (by decide) rfl (fun ls hl => ?_)
              refine lv_iinc (v := (x5 + 1)) (lv' := [(5, .int (x5 + 1)), (3, .int (x3 + 1)), (4, .int 0), (0, .ref (a 0))]) hx hb dX8_isWay_97 hl (k := 3) rfl rfl (by decide) rfl (fun ls hl => ?_)
              refine lv_goto (tgt := 44) hx hb dX8_isWay_100 (by decide) ?_
              exact ih44 _ _ _ h _ _ hP hD hS _ (lv_sub hl [3, 1, 2, 0] rfl)
          · replace h := ite_f h c7
            refine lv_iconst (v := 1) hx hb dX8_isWay_71 (by decide) ?_
            refine lv_goto (tgt := 76) hx hb dX8_isWay_72 (by decide) ?_
            refine lv_istore (lv' := [(4, .int 1), (0, .ref (a 0)), (3, .int x3), (5, .int x5)]) hx hb dX8_isWay_76 hl (by decide) rfl (fun ls hl => ?_)
            refine lv_aload_n hx hb dX8_isWay_78 rfl (lv_at hl 1 rfl) ?_
            refine va_get (D := (dC, dI)) (ci := 8) (v := .ref (a 10)) (C := RX8) (T := TX8) (N := 19) hx hb hts inX8_isWay_X8 hown hK hP 0 (eM_0 a cy I A_44 T) rfl 17 (by decide) (hts _ mX8_isWay_1) (fun _ h9 => h9) rfl dX8_isWay_79 ?_
            refine lv_iload hx hb dX8_isWay_82 (lv_at hl 3 rfl) ?_
            refine g_iald (f := (A_44 9)) (j := x5.toNatClampNeg) hx hb hK hP 10 (eM_10 a cy I A_44 T) i6 rfl dX8_isWay_84 ?_
            refine lv_iload_n hx hb dX8_isWay_85 rfl (lv_at hl 2 rfl) ?_
            refine lv_icmp_ne (tgt := 95) hx hb dX8_isWay_86 (by decide) (fun c9 => ?_) (fun c9 => ?_)
            · replace h := ite_f h c9
              refine lv_iload_n hx hb dX8_isWay_95 rfl (lv_at hl 2 rfl) ?_
              refine lv_istore_n (lv' := [(3, .int x3), (4, .int 1), (0, .ref (a 0)), (5, .int x5)]) hx hb dX8_isWay_96 rfl hl (by decide) rfl (fun ls hl => ?_)
              refine lv_iinc (v := (x5 + 1)) (lv' := [(5, .int (x5 + 1)), (3, .int x3), (4, .int 1), (0, .ref (a 0))]) hx hb dX8_isWay_97 hl (k := 3) rfl rfl (by decide) rfl (fun ls hl => ?_)
              refine lv_goto (tgt := 44) hx hb dX8_isWay_100 (by decide) ?_
              exact ih44 _ _ _ h _ _ hP hD hS _ (lv_sub hl [3, 1, 2, 0] rfl)
            · replace h := ite_t h c9
              refine lv_iload_n hx hb dX8_isWay_89 rfl (lv_at hl 2 rfl) ?_
              refine lv_iconst (v := 1) hx hb dX8_isWay_90 (by decide) ?_
              refine lv_iadd hx hb dX8_isWay_91 ?_
              refine lv_goto (tgt := 96) hx hb dX8_isWay_92 (by decide) ?_
              refine lv_istore_n (lv' := [(3, .int (x3 + 1)), (4, .int 1), (0, .ref (a 0)), (5, .int x5)]) hx hb dX8_isWay_96 rfl hl (by decide) rfl (fun ls hl => ?_)
              refine lv_iinc (v := (x5 + 1)) (lv' := [(5, .int (x5 + 1)), (3, .int (x3 + 1)), (4, .int 1), (0, .ref (a 0))]) hx hb dX8_isWay_97 hl (k := 3) rfl rfl (by decide) rfl (fun ls hl => ?_)
              refine lv_goto (tgt := 44) hx hb dX8_isWay_100 (by decide) ?_
              exact ih44 _ _ _ h _ _ hP hD hS _ (lv_sub hl [3, 1, 2, 0] rfl)
  refine lp44 _ _ ?_ N _ _ _ h _ _ hP hD hS _ (lv_sub hl [3, 2, 1, 0] rfl)
  intro x3 x4 x5 h H locs hP hD hS ls hl
  refine lv_iload hx hb dX8_isWay_103 (lv_at hl 0 rfl) ?_
  obtain ⟨b1, h⟩ := bool_some h
  obtain rfl := Option.some.inj h
  exact g_zret hx hb hr b1 hK hP hD hS hQ dX8_isWay_105
theorem inX8_beds_X8 : ∀ w ∈ u_ws RX8 TX8 19, w ∈ wsX8_beds := by decide +kernel
theorem mX8_beds_0 : Cond.fieldLink RX8 13 "WarmBottlesModel" "told" "[I" ∈ wsX8_beds := List.mem_of_getElem? (i := 1) rfl
theorem mX8_beds_1 : Cond.fieldLink RX8 41 "WarmBottlesModel" "best" "[I" ∈ wsX8_beds := List.mem_of_getElem? (i := 4) rfl
theorem mX8_beds_2 : Cond.fieldLink RX8 38 "WarmBottlesModel" "row" "[I" ∈ wsX8_beds := List.mem_of_getElem? (i := 3) rfl
theorem mX8_beds_3 : Cond.fieldLink RX8 19 "WarmBottlesModel" "s" "[I" ∈ wsX8_beds := List.mem_of_getElem? (i := 2) rfl
def rm_X8_beds_M : Room := { frames := 9, cells := 0, slots := 0, locals := 390 }
def f_X8_beds_M_L131 (N : Nat) (k_131 : Int32 → (Nat → Nat → Int32) → Option (Int32 × (Nat → Nat → Int32))) (x1 : Int32) (x2 : Int32) (x3 : Int32) (x4 : Int32) (I : (Nat → Int32)) : Nat → Int32 → (Nat → Nat → Int32) → Option (Int32 × (Nat → Nat → Int32))
  | 0, _, _ => none
  | n_131 + 1, x6, A_131 => (if ((A_131 1) 0) ≤ x6 then (k_131 x6 A_131) else (if x6 < 0 ∨ 6 ≤ x6.toNatClampNeg then none else (f_X8_beds_M_L131 N k_131 x1 x2 x3 x4 I n_131 (x6 + 1) (va_up A_131 10 (upd (A_131 10) x6.toNatClampNeg ((A_131 9) x6.toNatClampNeg))))))
def f_X8_beds_M_L79 (N : Nat) (k_79 : Int32 → (Nat → Nat → Int32) → Option (Int32 × (Nat → Nat → Int32))) (x1 : Int32) (x2 : Int32) (x3 : Int32) (x4 : Int32) (I : (Nat → Int32)) : Nat → Int32 → (Nat → Nat → Int32) → Option (Int32 × (Nat → Nat → Int32))
  | 0, _, _ => none
  | n_79 + 1, x5, A_79 => (if ((A_79 1) 0) ≤ x5 then (k_79 x5 A_79) else (if x5 < 0 ∨ 6 ≤ x5.toNatClampNeg then none else (if (9 + x5) < 0 ∨ 15 ≤ ((9 + x5)).toNatClampNeg then none else (f_X8_beds_M_L79 N k_79 x1 x2 x3 x4 I n_79 (x5 + 1) (va_up A_79 3 (upd (A_79 3) ((9 + x5)).toNatClampNeg ((A_79 9) x5.toNatClampNeg)))))))
def f_X8_beds_M_L61 (N : Nat) (k_61 : Int32 → Int32 → (Nat → Nat → Int32) → Option (Int32 × (Nat → Nat → Int32))) (x1 : Int32) (x2 : Int32) (I : (Nat → Int32)) : Nat → Int32 → Int32 → (Nat → Nat → Int32) → Option (Int32 × (Nat → Nat → Int32))
  | 0, _, _, _ => none
  | n_61 + 1, x3, x4, A_61 => (if x2 ≤ x4 then (k_61 x3 x4 A_61) else (Option.bind (f_X8_isWay_M N I A_61 x4) (fun r8 => (if r8.1 = 0 then (f_X8_beds_M_L61 N k_61 x1 x2 I n_61 x3 (x4 + 1) r8.2) else (f_X8_beds_M_L79 N (fun (x5 : Int32) (A_79 : (Nat → Nat → Int32)) => (Option.bind (f_X8_allLast_M N I A_79) (fun r10 => (if r10 ≤ x3 then (f_X8_beds_M_L61 N k_61 x1 x2 I n_61 x3 (x4 + 1) A_79) else (f_X8_beds_M_L131 N (fun (x6 : Int32) (A_131 : (Nat → Nat → Int32)) => (f_X8_beds_M_L61 N k_61 x1 x2 I n_61 r10 (x4 + 1) A_131)) x1 x2 r10 x4 I N 0 A_79))))) x1 x2 x3 x4 I N 0 r8.2)))))
def f_X8_beds_M_L35 (N : Nat) (k_35 : Int32 → Int32 → Option (Int32 × (Nat → Nat → Int32))) (x1 : Int32) (I : (Nat → Int32)) (A_35 : (Nat → Nat → Int32)) : Nat → Int32 → Int32 → Option (Int32 × (Nat → Nat → Int32))
  | 0, _, _ => none
  | n_35 + 1, x2, x3 => (if ((A_35 1) 0) ≤ x3 then (k_35 x2 x3) else (f_X8_beds_M_L35 N k_35 x1 I A_35 n_35 (x2 * 6) (x3 + 1)))
def f_X8_beds_M (N : Nat) (I : Nat → Int32) (A : Nat → Nat → Int32) (p1 : Int32) : Option (Int32 × (Nat → Nat → Int32)) := (if p1 = (-1) then (if ((A 1) 0) = 0 then some ((-9), A) else (Option.bind (f_X8_holds_M N I A) (fun r3 => (f_X8_beds_M_L35 N (fun (x2 : Int32) (x3 : Int32) => (f_X8_beds_M_L61 N (fun (x3 : Int32) (x4 : Int32) (A_61 : (Nat → Nat → Int32)) => (Option.bind (f_X8_lets_M N I A_61) (fun r4 => (if p1 = (-1) then some (x3, r4) else (if p1 < 0 ∨ 6 ≤ p1.toNatClampNeg then none else some (((r4 10) p1.toNatClampNeg), r4)))))) p1 x2 I N (-1) 0 r3)) p1 I r3 N 1 1)))) else (Option.bind (f_X8_isBottle_M N I A p1) (fun r18 => (if r18 = 0 then some ((-1), A) else (if ((A 1) 0) = 0 then some ((-9), A) else (Option.bind (f_X8_holds_M N I A) (fun r21 => (f_X8_beds_M_L35 N (fun (x2 : Int32) (x3 : Int32) => (f_X8_beds_M_L61 N (fun (x3 : Int32) (x4 : Int32) (A_61 : (Nat → Nat → Int32)) => (Option.bind (f_X8_lets_M N I A_61) (fun r22 => (if p1 = (-1) then some (x3, r22) else (if p1 < 0 ∨ 6 ≤ p1.toNatClampNeg then none else some (((r22 10) p1.toNatClampNeg), r22)))))) p1 x2 I N (-1) 0 r21)) p1 I r21 N 1 1))))))))
set_option maxHeartbeats 4000000 in
set_option maxRecDepth 100000 in
theorem c_X8_beds_M (l : Launch) (dC : Nat → ClassId) (dI : Nat → Nat → Nat) (a : Nat → Nat) (cy : Nat → ClassId) (N : Nat) (I : Nat → Int32) (A : Nat → Nat → Int32) (T : Int64) (p1 : Int32) (res : Int32 × (Nat → Nat → Int32)) (h : f_X8_beds_M N I A p1 = some res) (sz : Nat) : Met l yX8_beds wsX8_beds rm_X8_beds_M (g_Pre (dC, dI) cy [.ref (a 0), .int p1] (wM a cy I A T) sz) (g_Qi (dC, dI) cy res.1 (wM a cy I A T) (wM a cy I res.2 T) sz) 0 0 (va_A (wM a cy I A T) sz) := by
  unfold f_X8_beds_M at h
  refine g_entry _ _ _ _ _ _ (cc := cX8_beds) (maxL := 7) (ret := (some .int)) (by decide) rfl (Nat.le_of_ble_eq_true rfl) ?_
  intro p e s m args below meth c ls hx hb hml hown hts hr hlocks hA hK hP hD hS hl Q hQ
  have hl : lv_has ls 7 [(0, .ref (a 0)), (1, .int p1)] := hl
  have hown : s.vm.findClass RX8 = some m.cls := hown
  refine lv_iload_n hx hb dX8_beds_0 rfl (lv_at hl 1 rfl) ?_
  refine lv_iconst (v := (-1)) hx hb dX8_beds_1 (by decide) ?_
  refine lv_icmp_eq (tgt := 15) hx hb dX8_beds_2 (by decide) (fun c1 => ?_) (fun c1 => ?_)
  · replace h := ite_t h c1
    refine lv_aload_n hx hb dX8_beds_15 rfl (lv_at hl 0 rfl) ?_
    refine va_get (D := (dC, dI)) (ci := 8) (v := .ref (a 2)) (C := RX8) (T := TX8) (N := 19) hx hb hts inX8_beds_X8 hown hK hP 0 (eM_0 a cy I A T) rfl 3 (by decide) (hts _ mX8_beds_0) (fun _ h9 => h9) rfl dX8_beds_16 ?_
    refine lv_iconst (v := 0) hx hb dX8_beds_19 (by decide) ?_
    refine g_iald (f := (A 1)) (j := 0) hx hb hK hP 2 (eM_2 a cy I A T) (lit_in (by decide) : vp_in 0 23) rfl dX8_beds_20 ?_
    refine lv_if_ne (tgt := 27) hx hb dX8_beds_21 (by decide) (fun c2 => ?_) (fun c2 => ?_)
    · replace h := ite_f h c2
      refine lv_aload_n hx hb dX8_beds_27 rfl (lv_at hl 0 rfl) ?_
      obtain ⟨r3, hr3, h⟩ := bnd_some h
      refine g_callVv (As := []) (rest := []) (ci := 8) (q0 := 0) hx hb hml hown hts (c_X8_holds_M l dC dI a cy N I A T r3 hr3) (cwV 0 hts gX8_beds_X8_holds rfl rfl rfl (by decide +kernel) ⟨Nat.le_of_ble_eq_true rfl, Nat.le_of_ble_eq_true rfl⟩) hK hP hD hS hA rfl (eM_0 a cy I A T) rfl rfl hl.1 rfl (Nat.le_of_ble_eq_true rfl) dX8_beds_28 (fun H locs hP hD hS => ?_)
      refine lv_iconst (v := 1) hx hb dX8_beds_31 (by decide) ?_
      refine lv_istore_n (lv' := [(2, .int 1), (0, .ref (a 0)), (1, .int p1)]) hx hb dX8_beds_32 rfl hl (by decide) rfl (fun ls hl => ?_)
      refine lv_iconst (v := 1) hx hb dX8_beds_33 (by decide) ?_
      refine lv_istore_n (lv' := [(3, .int 1), (2, .int 1), (0, .ref (a 0)), (1, .int p1)]) hx hb dX8_beds_34 rfl hl (by decide) rfl (fun ls hl => ?_)
      have lp35 : ∀ (x1 : Int32) (A_35 : (Nat → Nat → Int32)) (k_35 : Int32 → Int32 → Option (Int32 × (Nat → Nat → Int32))), (∀ (x2 : Int32) (x3 : Int32), k_35 x2 x3 = some res → g_At (dC, dI) p l e (headSpec wsX8_beds rm_X8_beds_M).room s m args below meth c Q (wM a cy I A T) sz 7 (wM a cy I A_35 T) [(0, .ref (a 0)), (1, .int x1), (2, .int x2)] 56 []) → ∀ (n_35 : Nat) (x2 : Int32) (x3 : Int32), f_X8_beds_M_L35 N k_35 x1 I A_35 n_35 x2 x3 = some res → g_At (dC, dI) p l e (headSpec wsX8_beds rm_X8_beds_M).room s m args below meth c Q (wM a cy I A T) sz 7 (wM a cy I A_35 T) [(0, .ref (a 0)), (1, .int x1), (2, .int x2), (3, .int x3)] 35 [] := by
        intro x1 A_35 k_35 hk_35 n_35
        induction n_35 with
        | zero =>
          intro x2 x3 h
          exact absurd h (by rw [f_X8_beds_M_L35]; exact fun q => by cases q)
        | succ n_35 ih35 =>
          intro x2 x3 h H locs hP hD hS ls hl
          rw [f_X8_beds_M_L35] at h
          refine lv_iload_n hx hb dX8_beds_35 rfl (lv_at hl 3 rfl) ?_
          refine lv_aload_n hx hb dX8_beds_36 rfl (lv_at hl 0 rfl) ?_
          refine va_get (D := (dC, dI)) (ci := 8) (v := .ref (a 2)) (C := RX8) (T := TX8) (N := 19) hx hb hts inX8_beds_X8 hown hK hP 0 (eM_0 a cy I A_35 T) rfl 3 (by decide) (hts _ mX8_beds_0) (fun _ h9 => h9) rfl dX8_beds_37 ?_
          refine lv_iconst (v := 0) hx hb dX8_beds_40 (by decide) ?_
          refine g_iald (f := (A_35 1)) (j := 0) hx hb hK hP 2 (eM_2 a cy I A_35 T) (lit_in (by decide) : vp_in 0 23) rfl dX8_beds_41 ?_
          refine lv_icmp_ge (tgt := 56) hx hb dX8_beds_42 (by decide) (fun c17 => ?_) (fun c17 => ?_)
          · replace h := ite_t h c17
            exact hk_35 _ _ h _ _ hP hD hS _ (lv_sub hl [0, 1, 2] rfl)
          · replace h := ite_f h c17
            refine lv_iload_n hx hb dX8_beds_45 rfl (lv_at hl 2 rfl) ?_
            refine lv_bipush (v := 6) hx hb dX8_beds_46 (by decide) ?_
            refine lv_imul hx hb dX8_beds_48 ?_
            refine lv_istore_n (lv' := [(2, .int (x2 * 6)), (0, .ref (a 0)), (1, .int x1), (3, .int x3)]) hx hb dX8_beds_49 rfl hl (by decide) rfl (fun ls hl => ?_)
            refine lv_iinc (v := (x3 + 1)) (lv' := [(3, .int (x3 + 1)), (2, .int (x2 * 6)), (0, .ref (a 0)), (1, .int x1)]) hx hb dX8_beds_50 hl (k := 3) rfl rfl (by decide) rfl (fun ls hl => ?_)
            refine lv_goto (tgt := 35) hx hb dX8_beds_53 (by decide) ?_
            exact ih35 _ _ h _ _ hP hD hS _ (lv_sub hl [2, 3, 1, 0] rfl)
      refine lp35 _ _ _ ?_ N _ _ h _ _ hP hD hS _ (lv_sub hl [2, 3, 1, 0] rfl)
      intro x2 x3 h H locs hP hD hS ls hl
      refine lv_iconst (v := (-1)) hx hb dX8_beds_56 (by decide) ?_
      refine lv_istore_n (lv' := [(3, .int (-1)), (0, .ref (a 0)), (1, .int p1), (2, .int x2)]) hx hb dX8_beds_57 rfl hl (by decide) rfl (fun ls hl => ?_)
      refine lv_iconst (v := 0) hx hb dX8_beds_58 (by decide) ?_
      refine lv_istore (lv' := [(4, .int 0), (3, .int (-1)), (0, .ref (a 0)), (1, .int p1), (2, .int x2)]) hx hb dX8_beds_59 hl (by decide) rfl (fun ls hl => ?_)
      have lp61 : ∀ (x1 : Int32) (x2 : Int32) (k_61 : Int32 → Int32 → (Nat → Nat → Int32) → Option (Int32 × (Nat → Nat → Int32))), (∀ (x3 : Int32) (x4 : Int32) (A_61 : (Nat → Nat → Int32)), k_61 x3 x4 A_61 = some res → g_At (dC, dI) p l e (headSpec wsX8_beds rm_X8_beds_M).room s m args below meth c Q (wM a cy I A T) sz 7 (wM a cy I A_61 T) [(0, .ref (a 0)), (1, .int x1), (3, .int x3)] 168 []) → ∀ (n_61 : Nat) (x3 : Int32) (x4 : Int32) (A_61 : (Nat → Nat → Int32)), f_X8_beds_M_L61 N k_61 x1 x2 I n_61 x3 x4 A_61 = some res → g_At (dC, dI) p l e (headSpec wsX8_beds rm_X8_beds_M).room s m args below meth c Q (wM a cy I A T) sz 7 (wM a cy I A_61 T) [(0, .ref (a 0)), (1, .int x1), (2, .int x2), (3, .int x3), (4, .int x4)] 61 [] := by
        intro x1 x2 k_61 hk_61 n_61
        induction n_61 with
        | zero =>
          intro x3 x4 A_61 h
          exact absurd h (by rw [f_X8_beds_M_L61]; exact fun q => by cases q)
        | succ n_61 ih61 =>
          intro x3 x4 A_61 h H locs hP hD hS ls hl
          rw [f_X8_beds_M_L61] at h
          refine lv_iload hx hb dX8_beds_61 (lv_at hl 4 rfl) ?_
          refine lv_iload_n hx hb dX8_beds_63 rfl (lv_at hl 2 rfl) ?_
          refine lv_icmp_ge (tgt := 168) hx hb dX8_beds_64 (by decide) (fun c7 => ?_) (fun c7 => ?_)
          · replace h := ite_t h c7
            exact hk_61 _ _ _ h _ _ hP hD hS _ (lv_sub hl [0, 1, 3] rfl)
          · replace h := ite_f h c7
            refine lv_aload_n hx hb dX8_beds_67 rfl (lv_at hl 0 rfl) ?_
            refine lv_iload hx hb dX8_beds_68 (lv_at hl 4 rfl) ?_
            obtain ⟨r8, hr8, h⟩ := bnd_some h
            refine g_callVi (As := [.int x4]) (rest := []) (ci := 8) (q0 := 0) hx hb hml hown hts (c_X8_isWay_M l dC dI a cy N I A_61 T x4 r8 hr8) (cwV 1 hts gX8_beds_X8_isWay rfl rfl rfl (by decide +kernel) ⟨Nat.le_of_ble_eq_true rfl, Nat.le_of_ble_eq_true rfl⟩) hK hP hD hS hA rfl (eM_0 a cy I A_61 T) rfl rfl hl.1 rfl (Nat.le_of_ble_eq_true rfl) dX8_beds_70 (fun H locs hP hD hS => ?_)
            refine lv_if_eq (tgt := 162) hx hb dX8_beds_73 (by decide) (fun c9 => ?_) (fun c9 => ?_)
            · replace h := ite_t h c9
              refine lv_iinc (v := (x4 + 1)) (lv' := [(4, .int (x4 + 1)), (0, .ref (a 0)), (1, .int x1), (2, .int x2), (3, .int x3)]) hx hb dX8_beds_162 hl (k := 4) rfl rfl (by decide) rfl (fun ls hl => ?_)
              refine lv_goto (tgt := 61) hx hb dX8_beds_165 (by decide) ?_
              exact ih61 _ _ _ h _ _ hP hD hS _ (lv_sub hl [1, 2, 3, 4, 0] rfl)
            · replace h := ite_f h c9
              refine lv_iconst (v := 0) hx hb dX8_beds_76 (by decide) ?_
              refine lv_istore (lv' := [(5, .int 0), (0, .ref (a 0)), (1, .int x1), (2, .int x2), (3, .int x3), (4, .int x4)]) hx hb dX8_beds_77 hl (by decide) rfl (fun ls hl => ?_)
              have lp79 : ∀ (x1 : Int32) (x2 : Int32) (x3 : Int32) (x4 : Int32) (k_79 : Int32 → (Nat → Nat → Int32) → Option (Int32 × (Nat → Nat → Int32))), (∀ (x5 : Int32) (A_79 : (Nat → Nat → Int32)), k_79 x5 A_79 = some res → g_At (dC, dI) p l e (headSpec wsX8_beds rm_X8_beds_M).room s m args below meth c Q (wM a cy I A T) sz 7 (wM a cy I A_79 T) [(0, .ref (a 0)), (1, .int x1), (2, .int x2), (3, .int x3), (4, .int x4)] 113 []) → ∀ (n_79 : Nat) (x5 : Int32) (A_79 : (Nat → Nat → Int32)), f_X8_beds_M_L79 N k_79 x1 x2 x3 x4 I n_79 x5 A_79 = some res → g_At (dC, dI) p l e (headSpec wsX8_beds rm_X8_beds_M).room s m args below meth c Q (wM a cy I A T) sz 7 (wM a cy I A_79 T) [(0, .ref (a 0)), (1, .int x1), (2, .int x2), (3, .int x3), (4, .int x4), (5, .int x5)] 79 [] := by
                intro x1 x2 x3 x4 k_79 hk_79 n_79
                induction n_79 with
                | zero =>
                  intro x5 A_79 h
                  exact absurd h (by rw [f_X8_beds_M_L79]; exact fun q => by cases q)
                | succ n_79 ih79 =>
                  intro x5 A_79 h H locs hP hD hS ls hl
                  rw [f_X8_beds_M_L79] at h
                  refine lv_iload hx hb dX8_beds_79 (lv_at hl 5 rfl) ?_
                  refine lv_aload_n hx hb dX8_beds_81 rfl (lv_at hl 0 rfl) ?_
                  refine va_get (D := (dC, dI)) (ci := 8) (v := .ref (a 2)) (C := RX8) (T := TX8) (N := 19) hx hb hts inX8_beds_X8 hown hK hP 0 (eM_0 a cy I A_79 T) rfl 3 (by decide) (hts _ mX8_beds_0) (fun _ h9 => h9) rfl dX8_beds_82 ?_
                  refine lv_iconst (v := 0) hx hb dX8_beds_85 (by decide) ?_
                  refine g_iald (f := (A_79 1)) (j := 0) hx hb hK hP 2 (eM_2 a cy I A_79 T) (lit_in (by decide) : vp_in 0 23) rfl dX8_beds_86 ?_
                  refine lv_icmp_ge (tgt := 113) hx hb dX8_beds_87 (by decide) (fun c14 => ?_) (fun c14 => ?_)
                  · replace h := ite_t h c14
                    exact hk_79 _ _ h _ _ hP hD hS _ (lv_sub hl [0, 1, 2, 3, 4] rfl)
                  · replace h := ite_f h c14
                    refine lv_aload_n hx hb dX8_beds_90 rfl (lv_at hl 0 rfl) ?_
                    refine va_get (D := (dC, dI)) (ci := 8) (v := .ref (a 4)) (C := RX8) (T := TX8) (N := 19) hx hb hts inX8_beds_X8 hown hK hP 0 (eM_0 a cy I A_79 T) rfl 5 (by decide) (hts _ mX8_beds_3) (fun _ h9 => h9) rfl dX8_beds_91 ?_
                    refine lv_bipush (v := 9) hx hb dX8_beds_94 (by decide) ?_
                    refine lv_iload hx hb dX8_beds_96 (lv_at hl 5 rfl) ?_
                    refine lv_iadd hx hb dX8_beds_98 ?_
                    refine lv_aload_n hx hb dX8_beds_99 rfl (lv_at hl 0 rfl) ?_
                    refine va_get (D := (dC, dI)) (ci := 8) (v := .ref (a 10)) (C := RX8) (T := TX8) (N := 19) hx hb hts inX8_beds_X8 hown hK hP 0 (eM_0 a cy I A_79 T) rfl 17 (by decide) (hts _ mX8_beds_2) (fun _ h9 => h9) rfl dX8_beds_100 ?_
                    refine lv_iload hx hb dX8_beds_103 (lv_at hl 5 rfl) ?_
                    obtain ⟨i15, h⟩ := inb_some h
                    refine g_iald (f := (A_79 9)) (j := x5.toNatClampNeg) hx hb hK hP 10 (eM_10 a cy I A_79 T) i15 rfl dX8_beds_105 ?_
                    obtain ⟨i16, h⟩ := inb_some h
                    refine g_iast (f := (A_79 3)) (j := ((9 + x5)).toNatClampNeg) hx hb hK hP hD hS 4 (eM_4 a cy I A_79 T) i16 rfl dX8_beds_106 (sM_4 a cy I A_79 T (upd (A_79 3) ((9 + x5)).toNatClampNeg ((A_79 9) x5.toNatClampNeg))) (fun H locs hP hD hS => ?_)
                    refine lv_iinc (v := (x5 + 1)) (lv' := [(5, .int (x5 + 1)), (0, .ref (a 0)), (1, .int x1), (2, .int x2), (3, .int x3), (4, .int x4)]) hx hb dX8_beds_107 hl (k := 5) rfl rfl (by decide) rfl (fun ls hl => ?_)
                    refine lv_goto (tgt := 79) hx hb dX8_beds_110 (by decide) ?_
                    exact ih79 _ _ h _ _ hP hD hS _ (lv_sub hl [1, 2, 3, 4, 5, 0] rfl)
              refine lp79 _ _ _ _ _ ?_ N _ _ h _ _ hP hD hS _ (lv_sub hl [1, 2, 3, 4, 5, 0] rfl)
              intro x5 A_79 h H locs hP hD hS ls hl
              refine lv_aload_n hx hb dX8_beds_113 rfl (lv_at hl 0 rfl) ?_
              obtain ⟨r10, hr10, h⟩ := bnd_some h
              refine g_callVi (As := []) (rest := []) (ci := 8) (q0 := 0) hx hb hml hown hts (c_X8_allLast_M l dC dI a cy N I A_79 T r10 hr10) (cwV 0 hts gX8_beds_X8_allLast rfl rfl rfl (by decide +kernel) ⟨Nat.le_of_ble_eq_true rfl, Nat.le_of_ble_eq_true rfl⟩) hK hP hD hS hA rfl (eM_0 a cy I A_79 T) rfl rfl hl.1 rfl (Nat.le_of_ble_eq_true rfl) dX8_beds_114 (fun H locs hP hD hS => ?_)
              refine lv_istore (lv' := [(5, .int r10), (0, .ref (a 0)), (1, .int x1), (2, .int x2), (3, .int x3), (4, .int x4)]) hx hb dX8_beds_117 hl (by decide) rfl (fun ls hl => ?_)
              refine lv_iload hx hb dX8_beds_119 (lv_at hl 0 rfl) ?_
              refine lv_iload_n hx hb dX8_beds_121 rfl (lv_at hl 4 rfl) ?_
              refine lv_icmp_le (tgt := 162) hx hb dX8_beds_122 (by decide) (fun c11 => ?_) (fun c11 => ?_)
              · replace h := ite_t h c11
                refine lv_iinc (v := (x4 + 1)) (lv' := [(4, .int (x4 + 1)), (5, .int r10), (0, .ref (a 0)), (1, .int x1), (2, .int x2), (3, .int x3)]) hx hb dX8_beds_162 hl (k := 5) rfl rfl (by decide) rfl (fun ls hl => ?_)
                refine lv_goto (tgt := 61) hx hb dX8_beds_165 (by decide) ?_
                exact ih61 _ _ _ h _ _ hP hD hS _ (lv_sub hl [2, 3, 4, 5, 0] rfl)
              · replace h := ite_f h c11
                refine lv_iload hx hb dX8_beds_125 (lv_at hl 0 rfl) ?_
                refine lv_istore_n (lv' := [(3, .int r10), (5, .int r10), (0, .ref (a 0)), (1, .int x1), (2, .int x2), (4, .int x4)]) hx hb dX8_beds_127 rfl hl (by decide) rfl (fun ls hl => ?_)
                refine lv_iconst (v := 0) hx hb dX8_beds_128 (by decide) ?_
                refine lv_istore (lv' := [(6, .int 0), (3, .int r10), (5, .int r10), (0, .ref (a 0)), (1, .int x1), (2, .int x2), (4, .int x4)]) hx hb dX8_beds_129 hl (by decide) rfl (fun ls hl => ?_)
                have lp131 : ∀ (x1 : Int32) (x2 : Int32) (x3 : Int32) (x4 : Int32) (k_131 : Int32 → (Nat → Nat → Int32) → Option (Int32 × (Nat → Nat → Int32))), (∀ (x6 : Int32) (A_131 : (Nat → Nat → Int32)), k_131 x6 A_131 = some res → g_At (dC, dI) p l e (headSpec wsX8_beds rm_X8_beds_M).room s m args below meth c Q (wM a cy I A T) sz 7 (wM a cy I A_131 T) [(0, .ref (a 0)), (1, .int x1), (2, .int x2), (3, .int x3), (4, .int x4)] 162 []) → ∀ (n_131 : Nat) (x6 : Int32) (A_131 : (Nat → Nat → Int32)), f_X8_beds_M_L131 N k_131 x1 x2 x3 x4 I n_131 x6 A_131 = some res → g_At (dC, dI) p l e (headSpec wsX8_beds rm_X8_beds_M).room s m args below meth c Q (wM a cy I A T) sz 7 (wM a cy I A_131 T) [(0, .ref (a 0)), (1, .int x1), (2, .int x2), (3, .int x3), (4, .int x4), (6, .int x6)] 131 [] := by
                  intro x1 x2 x3 x4 k_131 hk_131 n_131
                  induction n_131 with
                  | zero =>
                    intro x6 A_131 h
                    exact absurd h (by rw [f_X8_beds_M_L131]; exact fun q => by cases q)
                  | succ n_131 ih131 =>
                    intro x6 A_131 h H locs hP hD hS ls hl
                    rw [f_X8_beds_M_L131] at h
                    refine lv_iload hx hb dX8_beds_131 (lv_at hl 5 rfl) ?_
                    refine lv_aload_n hx hb dX8_beds_133 rfl (lv_at hl 0 rfl) ?_
                    refine va_get (D := (dC, dI)) (ci := 8) (v := .ref (a 2)) (C := RX8) (T := TX8) (N := 19) hx hb hts inX8_beds_X8 hown hK hP 0 (eM_0 a cy I A_131 T) rfl 3 (by decide) (hts _ mX8_beds_0) (fun _ h9 => h9) rfl dX8_beds_134 ?_
                    refine lv_iconst (v := 0) hx hb dX8_beds_137 (by decide) ?_
                    refine g_iald (f := (A_131 1)) (j := 0) hx hb hK hP 2 (eM_2 a cy I A_131 T) (lit_in (by decide) : vp_in 0 23) rfl dX8_beds_138 ?_
                    refine lv_icmp_ge (tgt := 162) hx hb dX8_beds_139 (by decide) (fun c12 => ?_) (fun c12 => ?_)
                    · replace h := ite_t h c12
                      exact hk_131 _ _ h _ _ hP hD hS _ (lv_sub hl [0, 1, 2, 3, 4] rfl)
                    · replace h := ite_f h c12
                      refine lv_aload_n hx hb dX8_beds_142 rfl (lv_at hl 0 rfl) ?_
                      refine va_get (D := (dC, dI)) (ci := 8) (v := .ref (a 11)) (C := RX8) (T := TX8) (N := 19) hx hb hts inX8_beds_X8 hown hK hP 0 (eM_0 a cy I A_131 T) rfl 18 (by decide) (hts _ mX8_beds_1) (fun _ h9 => h9) rfl dX8_beds_143 ?_
                      refine lv_iload hx hb dX8_beds_146 (lv_at hl 5 rfl) ?_
                      refine lv_aload_n hx hb dX8_beds_148 rfl (lv_at hl 0 rfl) ?_
                      refine va_get (D := (dC, dI)) (ci := 8) (v := .ref (a 10)) (C := RX8) (T := TX8) (N := 19) hx hb hts inX8_beds_X8 hown hK hP 0 (eM_0 a cy I A_131 T) rfl 17 (by decide) (hts _ mX8_beds_2) (fun _ h9 => h9) rfl dX8_beds_149 ?_
                      refine lv_iload hx hb dX8_beds_152 (lv_at hl 5 rfl) ?_
                      obtain ⟨i13, h⟩ := inb_some h
                      refine g_iald (f := (A_131 9)) (j := x6.toNatClampNeg) hx hb hK hP 10 (eM_10 a cy I A_131 T) i13 rfl dX8_beds_154 ?_
                      refine g_iast (f := (A_131 10)) (j := x6.toNatClampNeg) hx hb hK hP hD hS 11 (eM_11 a cy I A_131 T) i13 rfl dX8_beds_155 (sM_11 a cy I A_131 T (upd (A_131 10) x6.toNatClampNeg ((A_131 9) x6.toNatClampNeg))) (fun H locs hP hD hS => ?_)
                      refine lv_iinc (v := (x6 + 1)) (lv' := [(6, .int (x6 + 1)), (0, .ref (a 0)), (1, .int x1), (2, .int x2), (3, .int x3), (4, .int x4)]) hx hb dX8_beds_156 hl (k := 5) rfl rfl (by decide) rfl (fun ls hl => ?_)
                      refine lv_goto (tgt := 131) hx hb dX8_beds_159 (by decide) ?_
                      exact ih131 _ _ h _ _ hP hD hS _ (lv_sub hl [1, 2, 3, 4, 5, 0] rfl)
                refine lp131 _ _ _ _ _ ?_ N _ _ h _ _ hP hD hS _ (lv_sub hl [3, 4, 5, 1, 6, 0] rfl)
                intro x6 A_131 h H locs hP hD hS ls hl
                refine lv_iinc (v := (x4 + 1)) (lv' := [(4, .int (x4 + 1)), (0, .ref (a 0)), (1, .int x1), (2, .int x2), (3, .int r10)]) hx hb dX8_beds_162 hl (k := 4) rfl rfl (by decide) rfl (fun ls hl => ?_)
                refine lv_goto (tgt := 61) hx hb dX8_beds_165 (by decide) ?_
                exact ih61 _ _ _ h _ _ hP hD hS _ (lv_sub hl [1, 2, 3, 4, 0] rfl)
      refine lp61 _ _ _ ?_ N _ _ _ h _ _ hP hD hS _ (lv_sub hl [2, 3, 4, 1, 0] rfl)
      intro x3 x4 A_61 h H locs hP hD hS ls hl
      refine lv_aload_n hx hb dX8_beds_168 rfl (lv_at hl 0 rfl) ?_
      obtain ⟨r4, hr4, h⟩ := bnd_some h
      refine g_callVv (As := []) (rest := []) (ci := 8) (q0 := 0) hx hb hml hown hts (c_X8_lets_M l dC dI a cy N I A_61 T r4 hr4) (cwV 0 hts gX8_beds_X8_lets rfl rfl rfl (by decide +kernel) ⟨Nat.le_of_ble_eq_true rfl, Nat.le_of_ble_eq_true rfl⟩) hK hP hD hS hA rfl (eM_0 a cy I A_61 T) rfl rfl hl.1 rfl (Nat.le_of_ble_eq_true rfl) dX8_beds_169 (fun H locs hP hD hS => ?_)
      refine lv_iload_n hx hb dX8_beds_172 rfl (lv_at hl 1 rfl) ?_
      refine lv_iconst (v := (-1)) hx hb dX8_beds_173 (by decide) ?_
      refine lv_icmp_ne (tgt := 181) hx hb dX8_beds_174 (by decide) (fun c5 => ?_) (fun c5 => ?_)
      · replace h := ite_f h c5
        refine lv_aload_n hx hb dX8_beds_181 rfl (lv_at hl 0 rfl) ?_
        refine va_get (D := (dC, dI)) (ci := 8) (v := .ref (a 11)) (C := RX8) (T := TX8) (N := 19) hx hb hts inX8_beds_X8 hown hK hP 0 (eM_0 a cy I r4 T) rfl 18 (by decide) (hts _ mX8_beds_1) (fun _ h9 => h9) rfl dX8_beds_182 ?_
        refine lv_iload_n hx hb dX8_beds_185 rfl (lv_at hl 1 rfl) ?_
        obtain ⟨i6, h⟩ := inb_some h
        refine g_iald (f := (r4 10)) (j := p1.toNatClampNeg) hx hb hK hP 11 (eM_11 a cy I r4 T) i6 rfl dX8_beds_186 ?_
        obtain rfl := Option.some.inj h
        exact g_iret hx hb hr hK hP hD hS hQ dX8_beds_187
      · replace h := ite_t h c5
        refine lv_iload_n hx hb dX8_beds_177 rfl (lv_at hl 2 rfl) ?_
        refine lv_goto (tgt := 187) hx hb dX8_beds_178 (by decide) ?_
        obtain rfl := Option.some.inj h
        exact g_iret hx hb hr hK hP hD hS hQ dX8_beds_187
    · replace h := ite_t h c2
      refine lv_bipush (v := (-9)) hx hb dX8_beds_24 (by decide) ?_
      obtain rfl := Option.some.inj h
      exact g_iret hx hb hr hK hP hD hS hQ dX8_beds_26
  · replace h := ite_f h c1
    refine lv_aload_n hx hb dX8_beds_5 rfl (lv_at hl 0 rfl) ?_
    refine lv_iload_n hx hb dX8_beds_6 rfl (lv_at hl 1 rfl) ?_
    obtain ⟨r18, hr18, h⟩ := bnd_some h
    refine g_callVi (As := [.int p1]) (rest := []) (ci := 8) (q0 := 0) hx hb hml hown hts (c_X8_isBottle_M l dC dI a cy N I A T p1 r18 hr18) (cwV 1 hts gX8_beds_X8_isBottle rfl rfl rfl (by decide +kernel) ⟨Nat.le_of_ble_eq_true rfl, Nat.le_of_ble_eq_true rfl⟩) hK hP hD hS hA rfl (eM_0 a cy I A T) rfl rfl hl.1 rfl (Nat.le_of_ble_eq_true rfl) dX8_beds_7 (fun H locs hP hD hS => ?_)
    refine lv_if_ne (tgt := 15) hx hb dX8_beds_10 (by decide) (fun c19 => ?_) (fun c19 => ?_)
    · replace h := ite_f h c19
      refine lv_aload_n hx hb dX8_beds_15 rfl (lv_at hl 0 rfl) ?_
      refine va_get (D := (dC, dI)) (ci := 8) (v := .ref (a 2)) (C := RX8) (T := TX8) (N := 19) hx hb hts inX8_beds_X8 hown hK hP 0 (eM_0 a cy I A T) rfl 3 (by decide) (hts _ mX8_beds_0) (fun _ h9 => h9) rfl dX8_beds_16 ?_
      refine lv_iconst (v := 0) hx hb dX8_beds_19 (by decide) ?_
      refine g_iald (f := (A 1)) (j := 0) hx hb hK hP 2 (eM_2 a cy I A T) (lit_in (by decide) : vp_in 0 23) rfl dX8_beds_20 ?_
      refine lv_if_ne (tgt := 27) hx hb dX8_beds_21 (by decide) (fun c20 => ?_) (fun c20 => ?_)
      · replace h := ite_f h c20
        refine lv_aload_n hx hb dX8_beds_27 rfl (lv_at hl 0 rfl) ?_
        obtain ⟨r21, hr21, h⟩ := bnd_some h
        refine g_callVv (As := []) (rest := []) (ci := 8) (q0 := 0) hx hb hml hown hts (c_X8_holds_M l dC dI a cy N I A T r21 hr21) (cwV 0 hts gX8_beds_X8_holds rfl rfl rfl (by decide +kernel) ⟨Nat.le_of_ble_eq_true rfl, Nat.le_of_ble_eq_true rfl⟩) hK hP hD hS hA rfl (eM_0 a cy I A T) rfl rfl hl.1 rfl (Nat.le_of_ble_eq_true rfl) dX8_beds_28 (fun H locs hP hD hS => ?_)
        refine lv_iconst (v := 1) hx hb dX8_beds_31 (by decide) ?_
        refine lv_istore_n (lv' := [(2, .int 1), (0, .ref (a 0)), (1, .int p1)]) hx hb dX8_beds_32 rfl hl (by decide) rfl (fun ls hl => ?_)
        refine lv_iconst (v := 1) hx hb dX8_beds_33 (by decide) ?_
        refine lv_istore_n (lv' := [(3, .int 1), (2, .int 1), (0, .ref (a 0)), (1, .int p1)]) hx hb dX8_beds_34 rfl hl (by decide) rfl (fun ls hl => ?_)
        have lp35 : ∀ (x1 : Int32) (A_35 : (Nat → Nat → Int32)) (k_35 : Int32 → Int32 → Option (Int32 × (Nat → Nat → Int32))), (∀ (x2 : Int32) (x3 : Int32), k_35 x2 x3 = some res → g_At (dC, dI) p l e (headSpec wsX8_beds rm_X8_beds_M).room s m args below meth c Q (wM a cy I A T) sz 7 (wM a cy I A_35 T) [(0, .ref (a 0)), (1, .int x1), (2, .int x2)] 56 []) → ∀ (n_35 : Nat) (x2 : Int32) (x3 : Int32), f_X8_beds_M_L35 N k_35 x1 I A_35 n_35 x2 x3 = some res → g_At (dC, dI) p l e (headSpec wsX8_beds rm_X8_beds_M).room s m args below meth c Q (wM a cy I A T) sz 7 (wM a cy I A_35 T) [(0, .ref (a 0)), (1, .int x1), (2, .int x2), (3, .int x3)] 35 [] := by
          intro x1 A_35 k_35 hk_35 n_35
          induction n_35 with
          | zero =>
            intro x2 x3 h
            exact absurd h (by rw [f_X8_beds_M_L35]; exact fun q => by cases q)
          | succ n_35 ih35 =>
            intro x2 x3 h H locs hP hD hS ls hl
            rw [f_X8_beds_M_L35] at h
            refine lv_iload_n hx hb dX8_beds_35 rfl (lv_at hl 3 rfl) ?_
            refine lv_aload_n hx hb dX8_beds_36 rfl (lv_at hl 0 rfl) ?_
            refine va_get (D := (dC, dI)) (ci := 8) (v := .ref (a 2)) (C := RX8) (T := TX8) (N := 19) hx hb hts inX8_beds_X8 hown hK hP 0 (eM_0 a cy I A_35 T) rfl 3 (by decide) (hts _ mX8_beds_0) (fun _ h9 => h9) rfl dX8_beds_37 ?_
            refine lv_iconst (v := 0) hx hb dX8_beds_40 (by decide) ?_
            refine g_iald (f := (A_35 1)) (j := 0) hx hb hK hP 2 (eM_2 a cy I A_35 T) (lit_in (by decide) : vp_in 0 23) rfl dX8_beds_41 ?_
            refine lv_icmp_ge (tgt := 56) hx hb dX8_beds_42 (by decide) (fun c35 => ?_) (fun c35 => ?_)
            · replace h := ite_t h c35
              exact hk_35 _ _ h _ _ hP hD hS _ (lv_sub hl [0, 1, 2] rfl)
            · replace h := ite_f h c35
              refine lv_iload_n hx hb dX8_beds_45 rfl (lv_at hl 2 rfl) ?_
              refine lv_bipush (v := 6) hx hb dX8_beds_46 (by decide) ?_
              refine lv_imul hx hb dX8_beds_48 ?_
              refine lv_istore_n (lv' := [(2, .int (x2 * 6)), (0, .ref (a 0)), (1, .int x1), (3, .int x3)]) hx hb dX8_beds_49 rfl hl (by decide) rfl (fun ls hl => ?_)
              refine lv_iinc (v := (x3 + 1)) (lv' := [(3, .int (x3 + 1)), (2, .int (x2 * 6)), (0, .ref (a 0)), (1, .int x1)]) hx hb dX8_beds_50 hl (k := 3) rfl rfl (by decide) rfl (fun ls hl => ?_)
              refine lv_goto (tgt := 35) hx hb dX8_beds_53 (by decide) ?_
              exact ih35 _ _ h _ _ hP hD hS _ (lv_sub hl [2, 3, 1, 0] rfl)
        refine lp35 _ _ _ ?_ N _ _ h _ _ hP hD hS _ (lv_sub hl [2, 3, 1, 0] rfl)
        intro x2 x3 h H locs hP hD hS ls hl
        refine lv_iconst (v := (-1)) hx hb dX8_beds_56 (by decide) ?_
        refine lv_istore_n (lv' := [(3, .int (-1)), (0, .ref (a 0)), (1, .int p1), (2, .int x2)]) hx hb dX8_beds_57 rfl hl (by decide) rfl (fun ls hl => ?_)
        refine lv_iconst (v := 0) hx hb dX8_beds_58 (by decide) ?_
        refine lv_istore (lv' := [(4, .int 0), (3, .int (-1)), (0, .ref (a 0)), (1, .int p1), (2, .int x2)]) hx hb dX8_beds_59 hl (by decide) rfl (fun ls hl => ?_)
        have lp61 : ∀ (x1 : Int32) (x2 : Int32) (k_61 : Int32 → Int32 → (Nat → Nat → Int32) → Option (Int32 × (Nat → Nat → Int32))), (∀ (x3 : Int32) (x4 : Int32) (A_61 : (Nat → Nat → Int32)), k_61 x3 x4 A_61 = some res → g_At (dC, dI) p l e (headSpec wsX8_beds rm_X8_beds_M).room s m args below meth c Q (wM a cy I A T) sz 7 (wM a cy I A_61 T) [(0, .ref (a 0)), (1, .int x1), (3, .int x3)] 168 []) → ∀ (n_61 : Nat) (x3 : Int32) (x4 : Int32) (A_61 : (Nat → Nat → Int32)), f_X8_beds_M_L61 N k_61 x1 x2 I n_61 x3 x4 A_61 = some res → g_At (dC, dI) p l e (headSpec wsX8_beds rm_X8_beds_M).room s m args below meth c Q (wM a cy I A T) sz 7 (wM a cy I A_61 T) [(0, .ref (a 0)), (1, .int x1), (2, .int x2), (3, .int x3), (4, .int x4)] 61 [] := by
          intro x1 x2 k_61 hk_61 n_61
          induction n_61 with
          | zero =>
            intro x3 x4 A_61 h
            exact absurd h (by rw [f_X8_beds_M_L61]; exact fun q => by cases q)
          | succ n_61 ih61 =>
            intro x3 x4 A_61 h H locs hP hD hS ls hl
            rw [f_X8_beds_M_L61] at h
            refine lv_iload hx hb dX8_beds_61 (lv_at hl 4 rfl) ?_
            refine lv_iload_n hx hb dX8_beds_63 rfl (lv_at hl 2 rfl) ?_
            refine lv_icmp_ge (tgt := 168) hx hb dX8_beds_64 (by decide) (fun c25 => ?_) (fun c25 => ?_)
            · replace h := ite_t h c25
              exact hk_61 _ _ _ h _ _ hP hD hS _ (lv_sub hl [0, 1, 3] rfl)
            · replace h := ite_f h c25
              refine lv_aload_n hx hb dX8_beds_67 rfl (lv_at hl 0 rfl) ?_
              refine lv_iload hx hb dX8_beds_68 (lv_at hl 4 rfl) ?_
              obtain ⟨r26, hr26, h⟩ := bnd_some h
              refine g_callVi (As := [.int x4]) (rest := []) (ci := 8) (q0 := 0) hx hb hml hown hts (c_X8_isWay_M l dC dI a cy N I A_61 T x4 r26 hr26) (cwV 1 hts gX8_beds_X8_isWay rfl rfl rfl (by decide +kernel) ⟨Nat.le_of_ble_eq_true rfl, Nat.le_of_ble_eq_true rfl⟩) hK hP hD hS hA rfl (eM_0 a cy I A_61 T) rfl rfl hl.1 rfl (Nat.le_of_ble_eq_true rfl) dX8_beds_70 (fun H locs hP hD hS => ?_)
              refine lv_if_eq (tgt := 162) hx hb dX8_beds_73 (by decide) (fun c27 => ?_) (fun c27 => ?_)
              · replace h := ite_t h c27
                refine lv_iinc (v := (x4 + 1)) (lv' := [(4, .int (x4 + 1)), (0, .ref (a 0)), (1, .int x1), (2, .int x2), (3, .int x3)]) hx hb dX8_beds_162 hl (k := 4) rfl rfl (by decide) rfl (fun ls hl => ?_)
                refine lv_goto (tgt := 61) hx hb dX8_beds_165 (by decide) ?_
                exact ih61 _ _ _ h _ _ hP hD hS _ (lv_sub hl [1, 2, 3, 4, 0] rfl)
              · replace h := ite_f h c27
                refine lv_iconst (v := 0) hx hb dX8_beds_76 (by decide) ?_
                refine lv_istore (lv' := [(5, .int 0), (0, .ref (a 0)), (1, .int x1), (2, .int x2), (3, .int x3), (4, .int x4)]) hx hb dX8_beds_77 hl (by decide) rfl (fun ls hl => ?_)
                have lp79 : ∀ (x1 : Int32) (x2 : Int32) (x3 : Int32) (x4 : Int32) (k_79 : Int32 → (Nat → Nat → Int32) → Option (Int32 × (Nat → Nat → Int32))), (∀ (x5 : Int32) (A_79 : (Nat → Nat → Int32)), k_79 x5 A_79 = some res → g_At (dC, dI) p l e (headSpec wsX8_beds rm_X8_beds_M).room s m args below meth c Q (wM a cy I A T) sz 7 (wM a cy I A_79 T) [(0, .ref (a 0)), (1, .int x1), (2, .int x2), (3, .int x3), (4, .int x4)] 113 []) → ∀ (n_79 : Nat) (x5 : Int32) (A_79 : (Nat → Nat → Int32)), f_X8_beds_M_L79 N k_79 x1 x2 x3 x4 I n_79 x5 A_79 = some res → g_At (dC, dI) p l e (headSpec wsX8_beds rm_X8_beds_M).room s m args below meth c Q (wM a cy I A T) sz 7 (wM a cy I A_79 T) [(0, .ref (a 0)), (1, .int x1), (2, .int x2), (3, .int x3), (4, .int x4), (5, .int x5)] 79 [] := by
                  intro x1 x2 x3 x4 k_79 hk_79 n_79
                  induction n_79 with
                  | zero =>
                    intro x5 A_79 h
                    exact absurd h (by rw [f_X8_beds_M_L79]; exact fun q => by cases q)
                  | succ n_79 ih79 =>
                    intro x5 A_79 h H locs hP hD hS ls hl
                    rw [f_X8_beds_M_L79] at h
                    refine lv_iload hx hb dX8_beds_79 (lv_at hl 5 rfl) ?_
                    refine lv_aload_n hx hb dX8_beds_81 rfl (lv_at hl 0 rfl) ?_
                    refine va_get (D := (dC, dI)) (ci := 8) (v := .ref (a 2)) (C := RX8) (T := TX8) (N := 19) hx hb hts inX8_beds_X8 hown hK hP 0 (eM_0 a cy I A_79 T) rfl 3 (by decide) (hts _ mX8_beds_0) (fun _ h9 => h9) rfl dX8_beds_82 ?_
                    refine lv_iconst (v := 0) hx hb dX8_beds_85 (by decide) ?_
                    refine g_iald (f := (A_79 1)) (j := 0) hx hb hK hP 2 (eM_2 a cy I A_79 T) (lit_in (by decide) : vp_in 0 23) rfl dX8_beds_86 ?_
                    refine lv_icmp_ge (tgt := 113) hx hb dX8_beds_87 (by decide) (fun c32 => ?_) (fun c32 => ?_)
                    · replace h := ite_t h c32
                      exact hk_79 _ _ h _ _ hP hD hS _ (lv_sub hl [0, 1, 2, 3, 4] rfl)
                    · replace h := ite_f h c32
                      refine lv_aload_n hx hb dX8_beds_90 rfl (lv_at hl 0 rfl) ?_
                      refine va_get (D := (dC, dI)) (ci := 8) (v := .ref (a 4)) (C := RX8) (T := TX8) (N := 19) hx hb hts inX8_beds_X8 hown hK hP 0 (eM_0 a cy I A_79 T) rfl 5 (by decide) (hts _ mX8_beds_3) (fun _ h9 => h9) rfl dX8_beds_91 ?_
                      refine lv_bipush (v := 9) hx hb dX8_beds_94 (by decide) ?_
                      refine lv_iload hx hb dX8_beds_96 (lv_at hl 5 rfl) ?_
                      refine lv_iadd hx hb dX8_beds_98 ?_
                      refine lv_aload_n hx hb dX8_beds_99 rfl (lv_at hl 0 rfl) ?_
                      refine va_get (D := (dC, dI)) (ci := 8) (v := .ref (a 10)) (C := RX8) (T := TX8) (N := 19) hx hb hts inX8_beds_X8 hown hK hP 0 (eM_0 a cy I A_79 T) rfl 17 (by decide) (hts _ mX8_beds_2) (fun _ h9 => h9) rfl dX8_beds_100 ?_
                      refine lv_iload hx hb dX8_beds_103 (lv_at hl 5 rfl) ?_
                      obtain ⟨i33, h⟩ := inb_some h
                      refine g_iald (f := (A_79 9)) (j := x5.toNatClampNeg) hx hb hK hP 10 (eM_10 a cy I A_79 T) i33 rfl dX8_beds_105 ?_
                      obtain ⟨i34, h⟩ := inb_some h
                      refine g_iast (f := (A_79 3)) (j := ((9 + x5)).toNatClampNeg) hx hb hK hP hD hS 4 (eM_4 a cy I A_79 T) i34 rfl dX8_beds_106 (sM_4 a cy I A_79 T (upd (A_79 3) ((9 + x5)).toNatClampNeg ((A_79 9) x5.toNatClampNeg))) (fun H locs hP hD hS => ?_)
                      refine lv_iinc (v := (x5 + 1)) (lv' := [(5, .int (x5 + 1)), (0, .ref (a 0)), (1, .int x1), (2, .int x2), (3, .int x3), (4, .int x4)]) hx hb dX8_beds_107 hl (k := 5) rfl rfl (by decide) rfl (fun ls hl => ?_)
                      refine lv_goto (tgt := 79) hx hb dX8_beds_110 (by decide) ?_
                      exact ih79 _ _ h _ _ hP hD hS _ (lv_sub hl [1, 2, 3, 4, 5, 0] rfl)
                refine lp79 _ _ _ _ _ ?_ N _ _ h _ _ hP hD hS _ (lv_sub hl [1, 2, 3, 4, 5, 0] rfl)
                intro x5 A_79 h H locs hP hD hS ls hl
                refine lv_aload_n hx hb dX8_beds_113 rfl (lv_at hl 0 rfl) ?_
                obtain ⟨r28, hr28, h⟩ := bnd_some h
                refine g_callVi (As := []) (rest := []) (ci := 8) (q0 := 0) hx hb hml hown hts (c_X8_allLast_M l dC dI a cy N I A_79 T r28 hr28) (cwV 0 hts gX8_beds_X8_allLast rfl rfl rfl (by decide +kernel) ⟨Nat.le_of_ble_eq_true rfl, Nat.le_of_ble_eq_true rfl⟩) hK hP hD hS hA rfl (eM_0 a cy I A_79 T) rfl rfl hl.1 rfl (Nat.le_of_ble_eq_true rfl) dX8_beds_114 (fun H locs hP hD hS => ?_)
                refine lv_istore (lv' := [(5, .int r28), (0, .ref (a 0)), (1, .int x1), (2, .int x2), (3, .int x3), (4, .int x4)]) hx hb dX8_beds_117 hl (by decide) rfl (fun ls hl => ?_)
                refine lv_iload hx hb dX8_beds_119 (lv_at hl 0 rfl) ?_
                refine lv_iload_n hx hb dX8_beds_121 rfl (lv_at hl 4 rfl) ?_
                refine lv_icmp_le (tgt := 162) hx hb dX8_beds_122 (by decide) (fun c29 => ?_) (fun c29 => ?_)
                · replace h := ite_t h c29
                  refine lv_iinc (v := (x4 + 1)) (lv' := [(4, .int (x4 + 1)), (5, .int r28), (0, .ref (a 0)), (1, .int x1), (2, .int x2), (3, .int x3)]) hx hb dX8_beds_162 hl (k := 5) rfl rfl (by decide) rfl (fun ls hl => ?_)
                  refine lv_goto (tgt := 61) hx hb dX8_beds_165 (by decide) ?_
                  exact ih61 _ _ _ h _ _ hP hD hS _ (lv_sub hl [2, 3, 4, 5, 0] rfl)
                · replace h := ite_f h c29
                  refine lv_iload hx hb dX8_beds_125 (lv_at hl 0 rfl) ?_
                  refine lv_istore_n (lv' := [(3, .int r28), (5, .int r28), (0, .ref (a 0)), (1, .int x1), (2, .int x2), (4, .int x4)]) hx hb dX8_beds_127 rfl hl (by decide) rfl (fun ls hl => ?_)
                  refine lv_iconst (v := 0) hx hb dX8_beds_128 (by decide) ?_
                  refine lv_istore (lv' := [(6, .int 0), (3, .int r28), (5, .int r28), (0, .ref (a 0)), (1, .int x1), (2, .int x2), (4, .int x4)]) hx hb dX8_beds_129 hl (by decide) rfl (fun ls hl => ?_)
                  have lp131 : ∀ (x1 : Int32) (x2 : Int32) (x3 : Int32) (x4 : Int32) (k_131 : Int32 → (Nat → Nat → Int32) → Option (Int32 × (Nat → Nat → Int32))), (∀ (x6 : Int32) (A_131 : (Nat → Nat → Int32)), k_131 x6 A_131 = some res → g_At (dC, dI) p l e (headSpec wsX8_beds rm_X8_beds_M).room s m args below meth c Q (wM a cy I A T) sz 7 (wM a cy I A_131 T) [(0, .ref (a 0)), (1, .int x1), (2, .int x2), (3, .int x3), (4, .int x4)] 162 []) → ∀ (n_131 : Nat) (x6 : Int32) (A_131 : (Nat → Nat → Int32)), f_X8_beds_M_L131 N k_131 x1 x2 x3 x4 I n_131 x6 A_131 = some res → g_At (dC, dI) p l e (headSpec wsX8_beds rm_X8_beds_M).room s m args below meth c Q (wM a cy I A T) sz 7 (wM a cy I A_131 T) [(0, .ref (a 0)), (1, .int x1), (2, .int x2), (3, .int x3), (4, .int x4), (6, .int x6)] 131 [] := by
                    intro x1 x2 x3 x4 k_131 hk_131 n_131
                    induction n_131 with
                    | zero =>
                      intro x6 A_131 h
                      exact absurd h (by rw [f_X8_beds_M_L131]; exact fun q => by cases q)
                    | succ n_131 ih131 =>
                      intro x6 A_131 h H locs hP hD hS ls hl
                      rw [f_X8_beds_M_L131] at h
                      refine lv_iload hx hb dX8_beds_131 (lv_at hl 5 rfl) ?_
                      refine lv_aload_n hx hb dX8_beds_133 rfl (lv_at hl 0 rfl) ?_
                      refine va_get (D := (dC, dI)) (ci := 8) (v := .ref (a 2)) (C := RX8) (T := TX8) (N := 19) hx hb hts inX8_beds_X8 hown hK hP 0 (eM_0 a cy I A_131 T) rfl 3 (by decide) (hts _ mX8_beds_0) (fun _ h9 => h9) rfl dX8_beds_134 ?_
                      refine lv_iconst (v := 0) hx hb dX8_beds_137 (by decide) ?_
                      refine g_iald (f := (A_131 1)) (j := 0) hx hb hK hP 2 (eM_2 a cy I A_131 T) (lit_in (by decide) : vp_in 0 23) rfl dX8_beds_138 ?_
                      refine lv_icmp_ge (tgt := 162) hx hb dX8_beds_139 (by decide) (fun c30 => ?_) (fun c30 => ?_)
                      · replace h := ite_t h c30
                        exact hk_131 _ _ h _ _ hP hD hS _ (lv_sub hl [0, 1, 2, 3, 4] rfl)
                      · replace h := ite_f h c30
                        refine lv_aload_n hx hb dX8_beds_142 rfl (lv_at hl 0 rfl) ?_
                        refine va_get (D := (dC, dI)) (ci := 8) (v := .ref (a 11)) (C := RX8) (T := TX8) (N := 19) hx hb hts inX8_beds_X8 hown hK hP 0 (eM_0 a cy I A_131 T) rfl 18 (by decide) (hts _ mX8_beds_1) (fun _ h9 => h9) rfl dX8_beds_143 ?_
                        refine lv_iload hx hb dX8_beds_146 (lv_at hl 5 rfl) ?_
                        refine lv_aload_n hx hb dX8_beds_148 rfl (lv_at hl 0 rfl) ?_
                        refine va_get (D := (dC, dI)) (ci := 8) (v := .ref (a 10)) (C := RX8) (T := TX8) (N := 19) hx hb hts inX8_beds_X8 hown hK hP 0 (eM_0 a cy I A_131 T) rfl 17 (by decide) (hts _ mX8_beds_2) (fun _ h9 => h9) rfl dX8_beds_149 ?_
                        refine lv_iload hx hb dX8_beds_152 (lv_at hl 5 rfl) ?_
                        obtain ⟨i31, h⟩ := inb_some h
                        refine g_iald (f := (A_131 9)) (j := x6.toNatClampNeg) hx hb hK hP 10 (eM_10 a cy I A_131 T) i31 rfl dX8_beds_154 ?_
                        refine g_iast (f := (A_131 10)) (j := x6.toNatClampNeg) hx hb hK hP hD hS 11 (eM_11 a cy I A_131 T) i31 rfl dX8_beds_155 (sM_11 a cy I A_131 T (upd (A_131 10) x6.toNatClampNeg ((A_131 9) x6.toNatClampNeg))) (fun H locs hP hD hS => ?_)
                        refine lv_iinc (v := (x6 + 1)) (lv' := [(6, .int (x6 + 1)), (0, .ref (a 0)), (1, .int x1), (2, .int x2), (3, .int x3), (4, .int x4)]) hx hb dX8_beds_156 hl (k := 5) rfl rfl (by decide) rfl (fun ls hl => ?_)
                        refine lv_goto (tgt := 131) hx hb dX8_beds_159 (by decide) ?_
                        exact ih131 _ _ h _ _ hP hD hS _ (lv_sub hl [1, 2, 3, 4, 5, 0] rfl)
                  refine lp131 _ _ _ _ _ ?_ N _ _ h _ _ hP hD hS _ (lv_sub hl [3, 4, 5, 1, 6, 0] rfl)
                  intro x6 A_131 h H locs hP hD hS ls hl
                  refine lv_iinc (v := (x4 + 1)) (lv' := [(4, .int (x4 + 1)), (0, .ref (a 0)), (1, .int x1), (2, .int x2), (3, .int r28)]) hx hb dX8_beds_162 hl (k := 4) rfl rfl (by decide) rfl (fun ls hl => ?_)
                  refine lv_goto (tgt := 61) hx hb dX8_beds_165 (by decide) ?_
                  exact ih61 _ _ _ h _ _ hP hD hS _ (lv_sub hl [1, 2, 3, 4, 0] rfl)
        refine lp61 _ _ _ ?_ N _ _ _ h _ _ hP hD hS _ (lv_sub hl [2, 3, 4, 1, 0] rfl)
        intro x3 x4 A_61 h H locs hP hD hS ls hl
        refine lv_aload_n hx hb dX8_beds_168 rfl (lv_at hl 0 rfl) ?_
        obtain ⟨r22, hr22, h⟩ := bnd_some h
        refine g_callVv (As := []) (rest := []) (ci := 8) (q0 := 0) hx hb hml hown hts (c_X8_lets_M l dC dI a cy N I A_61 T r22 hr22) (cwV 0 hts gX8_beds_X8_lets rfl rfl rfl (by decide +kernel) ⟨Nat.le_of_ble_eq_true rfl, Nat.le_of_ble_eq_true rfl⟩) hK hP hD hS hA rfl (eM_0 a cy I A_61 T) rfl rfl hl.1 rfl (Nat.le_of_ble_eq_true rfl) dX8_beds_169 (fun H locs hP hD hS => ?_)
        refine lv_iload_n hx hb dX8_beds_172 rfl (lv_at hl 1 rfl) ?_
        refine lv_iconst (v := (-1)) hx hb dX8_beds_173 (by decide) ?_
        refine lv_icmp_ne (tgt := 181) hx hb dX8_beds_174 (by decide) (fun c23 => ?_) (fun c23 => ?_)
        · replace h := ite_f h c23
          refine lv_aload_n hx hb dX8_beds_181 rfl (lv_at hl 0 rfl) ?_
          refine va_get (D := (dC, dI)) (ci := 8) (v := .ref (a 11)) (C := RX8) (T := TX8) (N := 19) hx hb hts inX8_beds_X8 hown hK hP 0 (eM_0 a cy I r22 T) rfl 18 (by decide) (hts _ mX8_beds_1) (fun _ h9 => h9) rfl dX8_beds_182 ?_
          refine lv_iload_n hx hb dX8_beds_185 rfl (lv_at hl 1 rfl) ?_
          obtain ⟨i24, h⟩ := inb_some h
          refine g_iald (f := (r22 10)) (j := p1.toNatClampNeg) hx hb hK hP 11 (eM_11 a cy I r22 T) i24 rfl dX8_beds_186 ?_
          obtain rfl := Option.some.inj h
          exact g_iret hx hb hr hK hP hD hS hQ dX8_beds_187
        · replace h := ite_t h c23
          refine lv_iload_n hx hb dX8_beds_177 rfl (lv_at hl 2 rfl) ?_
          refine lv_goto (tgt := 187) hx hb dX8_beds_178 (by decide) ?_
          obtain rfl := Option.some.inj h
          exact g_iret hx hb hr hK hP hD hS hQ dX8_beds_187
      · replace h := ite_t h c20
        refine lv_bipush (v := (-9)) hx hb dX8_beds_24 (by decide) ?_
        obtain rfl := Option.some.inj h
        exact g_iret hx hb hr hK hP hD hS hQ dX8_beds_26
    · replace h := ite_t h c19
      refine lv_iconst (v := (-1)) hx hb dX8_beds_13 (by decide) ?_
      obtain rfl := Option.some.inj h
      exact g_iret hx hb hr hK hP hD hS hQ dX8_beds_14
