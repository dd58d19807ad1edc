theorem inX8_listen_X8 : ∀ w ∈ u_ws RX8 TX8 19, w ∈ wsX8_listen := by decide +kernel
theorem mX8_listen_0 : Cond.fieldLink RX8 13 "WarmBottlesModel" "told" "[I" ∈ wsX8_listen := List.mem_of_getElem? (i := 1) rfl
def rm_X8_listen_M : Room := { frames := 9, cells := 0, slots := 0, locals := 390 }
def f_X8_listen_M_L47 (N : Nat) (k_47 : Int32 → Int32 → Option (Int32)) (x1 : Int32) (x2 : Int32) (x3 : Int32) (x4 : Int32) (x5 : Int32) (x6 : Int32) (I : (Nat → Int32)) (A : (Nat → Nat → Int32)) : Nat → Int32 → Int32 → Option (Int32)
  | 0, _, _ => none
  | n_47 + 1, x7, x8 => (if ((A 1) 0) ≤ x8 then (k_47 x7 x8) else (if ((x1 >>> (x8 &&& 31)) &&& 1) = 1 then (Option.bind (f_X8_soundIn_M N I A x8 x4) (fun r11 => (if r11 = x6 then (f_X8_listen_M_L47 N k_47 x1 x2 x3 x4 x5 x6 I A n_47 (x7 + 1) (x8 + 1)) else (f_X8_listen_M_L47 N k_47 x1 x2 x3 x4 x5 x6 I A n_47 (x7 + 0) (x8 + 1))))) else (f_X8_listen_M_L47 N k_47 x1 x2 x3 x4 x5 x6 I A n_47 (x7 + 0) (x8 + 1))))
def f_X8_listen_M_L35 (N : Nat) (k_35 : Int32 → Int32 → Option (Int32)) (x1 : Int32) (x2 : Int32) (x3 : Int32) (x4 : Int32) (I : (Nat → Int32)) (A : (Nat → Nat → Int32)) : Nat → Int32 → Int32 → Option (Int32)
  | 0, _, _ => none
  | n_35 + 1, x5, x6 => (if 3 ≤ x6 then (k_35 x5 x6) else (f_X8_listen_M_L47 N (fun (x7 : Int32) (x8 : Int32) => (if x7 ≤ x5 then (f_X8_listen_M_L35 N k_35 x1 x2 x3 x4 I A n_35 x5 (x6 + 1)) else (f_X8_listen_M_L35 N k_35 x1 x2 x3 x4 I A n_35 x7 (x6 + 1)))) x1 x2 x3 x4 x5 x6 I A N 0 0))
def f_X8_listen_M_L14 (N : Nat) (k_14 : Int32 → Int32 → Int32 → Option (Int32)) (x1 : Int32) (I : (Nat → Int32)) (A : (Nat → Nat → Int32)) : Nat → Int32 → Int32 → Int32 → Option (Int32)
  | 0, _, _, _ => none
  | n_14 + 1, x2, x3, x4 => (if 10 ≤ x4 then (k_14 x2 x3 x4) else (if (x1 &&& (x1 - 1)) = 0 then (k_14 x2 x3 x4) else (f_X8_listen_M_L35 N (fun (x5 : Int32) (x6 : Int32) => (if x3 ≤ x5 then (f_X8_listen_M_L14 N k_14 x1 I A n_14 x2 x3 (x4 + 1)) else (f_X8_listen_M_L14 N k_14 x1 I A n_14 x4 x5 (x4 + 1)))) x1 x2 x3 x4 I A N 0 0)))
def f_X8_listen_M (N : Nat) (I : Nat → Int32) (A : Nat → Nat → Int32)  : Option (Int32) := (Option.bind (f_X8_whoNow_M N I A) (fun r1 => (f_X8_listen_M_L14 N (fun (x2 : Int32) (x3 : Int32) (x4 : Int32) => some x2) r1 I A N (-9) 99 0)))
set_option maxHeartbeats 4000000 in
set_option maxRecDepth 100000 in
theorem c_X8_listen_M (l : Launch) (dC : Nat → ClassId) (dI : Nat → Nat → Nat) (a : Nat → Nat) (cy : Nat → ClassId) (N : Nat) (I : Nat → Int32) (A : Nat → Nat → Int32) (T : Int64)  (res : Int32) (h : f_X8_listen_M N I A  = some res) (sz : Nat) : Met l yX8_listen wsX8_listen rm_X8_listen_M (g_Pre (dC, dI) cy [.ref (a 0)] (wM a cy I A T) sz) (g_Qi (dC, dI) cy res (wM a cy I A T) (wM a cy I A T) sz) 0 0 (va_A (wM a cy I A T) sz) := by
  unfold f_X8_listen_M at h
  refine g_entry _ _ _ _ _ _ (cc := cX8_listen) (maxL := 9) (ret := (some .int)) (by decide) rfl (Nat.le_of_ble_eq_true rfl) ?_
  intro p e s m args below meth c ls hx hb hml hown hts hr hlocks hA hK hP hD hS hl Q hQ
  have hl : lv_has ls 9 [(0, .ref (a 0))] := hl
  have hown : s.vm.findClass RX8 = some m.cls := hown
  refine lv_aload_n hx hb dX8_listen_0 rfl (lv_at hl 0 rfl) ?_
  obtain ⟨r1, hr1, h⟩ := bnd_some h
  refine g_callVi (As := []) (rest := []) (ci := 8) (q0 := 0) hx hb hml hown hts (c_X8_whoNow_M l dC dI a cy N I A T r1 hr1) (cwV 0 hts gX8_listen_X8_whoNow rfl rfl rfl (by decide +kernel) ⟨Nat.le_of_ble_eq_true rfl, Nat.le_of_ble_eq_true rfl⟩) hK hP hD hS hA rfl (eM_0 a cy I A T) rfl rfl hl.1 rfl (Nat.le_of_ble_eq_true rfl) dX8_listen_1 (fun H locs hP hD hS => ?_)
  refine lv_istore_n (lv' := [(1, .int r1), (0, .ref (a 0))]) hx hb dX8_listen_4 rfl hl (by decide) rfl (fun ls hl => ?_)
  refine lv_bipush (v := (-9)) hx hb dX8_listen_5 (by decide) ?_
  refine lv_istore_n (lv' := [(2, .int (-9)), (1, .int r1), (0, .ref (a 0))]) hx hb dX8_listen_7 rfl hl (by decide) rfl (fun ls hl => ?_)
  refine lv_bipush (v := 99) hx hb dX8_listen_8 (by decide) ?_
  refine lv_istore_n (lv' := [(3, .int 99), (2, .int (-9)), (1, .int r1), (0, .ref (a 0))]) hx hb dX8_listen_10 rfl hl (by decide) rfl (fun ls hl => ?_)
  refine lv_iconst (v := 0) hx hb dX8_listen_11 (by decide) ?_
  refine lv_istore (lv' := [(4, .int 0), (3, .int 99), (2, .int (-9)), (1, .int r1), (0, .ref (a 0))]) hx hb dX8_listen_12 hl (by decide) rfl (fun ls hl => ?_)
  have lp14 : ∀ (x1 : Int32) (k_14 : Int32 → Int32 → Int32 → Option (Int32)), (∀ (x2 : Int32) (x3 : Int32) (x4 : Int32), k_14 x2 x3 x4 = some res → g_At (dC, dI) p l e (headSpec wsX8_listen rm_X8_listen_M).room s m args below meth c Q (wM a cy I A T) sz 9 (wM a cy I A T) [(2, .int x2)] 151 []) → ∀ (n_14 : Nat) (x2 : Int32) (x3 : Int32) (x4 : Int32), f_X8_listen_M_L14 N k_14 x1 I A n_14 x2 x3 x4 = some res → g_At (dC, dI) p l e (headSpec wsX8_listen rm_X8_listen_M).room s m args below meth c Q (wM a cy I A T) sz 9 (wM a cy I A T) [(0, .ref (a 0)), (1, .int x1), (2, .int x2), (3, .int x3), (4, .int x4)] 14 [] := by
    intro x1 k_14 hk_14 n_14
    induction n_14 with
    | zero =>
      intro x2 x3 x4 h
      exact absurd h (by rw [f_X8_listen_M_L14]; exact fun q => by cases q)
    | succ n_14 ih14 =>
      intro x2 x3 x4 h H locs hP hD hS ls hl
      rw [f_X8_listen_M_L14] at h
      refine lv_iload hx hb dX8_listen_14 (lv_at hl 4 rfl) ?_
      refine lv_bipush (v := 10) hx hb dX8_listen_16 (by decide) ?_
      refine lv_icmp_ge (tgt := 151) hx hb dX8_listen_18 (by decide) (fun c2 => ?_) (fun c2 => ?_)
      · replace h := ite_t h c2
        exact hk_14 _ _ _ h _ _ hP hD hS _ (lv_sub hl [2] rfl)
      · replace h := ite_f h c2
        refine lv_iload_n hx hb dX8_listen_21 rfl (lv_at hl 1 rfl) ?_
        refine lv_iload_n hx hb dX8_listen_22 rfl (lv_at hl 1 rfl) ?_
        refine lv_iconst (v := 1) hx hb dX8_listen_23 (by decide) ?_
        refine lv_isub hx hb dX8_listen_24 ?_
        refine lv_iand hx hb dX8_listen_25 ?_
        refine lv_if_eq (tgt := 151) hx hb dX8_listen_26 (by decide) (fun c3 => ?_) (fun c3 => ?_)
        · replace h := ite_t h c3
          exact hk_14 _ _ _ h _ _ hP hD hS _ (lv_sub hl [2] rfl)
        · replace h := ite_f h c3
          refine lv_iconst (v := 0) hx hb dX8_listen_29 (by decide) ?_
          refine lv_istore (lv' := [(5, .int 0), (0, .ref (a 0)), (1, .int x1), (2, .int x2), (3, .int x3), (4, .int x4)]) hx hb dX8_listen_30 hl (by decide) rfl (fun ls hl => ?_)
          refine lv_iconst (v := 0) hx hb dX8_listen_32 (by decide) ?_
          refine lv_istore (lv' := [(6, .int 0), (5, .int 0), (0, .ref (a 0)), (1, .int x1), (2, .int x2), (3, .int x3), (4, .int x4)]) hx hb dX8_listen_33 hl (by decide) rfl (fun ls hl => ?_)
          have lp35 : ∀ (x1 : Int32) (x2 : Int32) (x3 : Int32) (x4 : Int32) (k_35 : Int32 → Int32 → Option (Int32)), (∀ (x5 : Int32) (x6 : Int32), k_35 x5 x6 = some res → g_At (dC, dI) p l e (headSpec wsX8_listen rm_X8_listen_M).room s m args below meth c Q (wM a cy I A T) sz 9 (wM a cy I A T) [(0, .ref (a 0)), (1, .int x1), (2, .int x2), (3, .int x3), (4, .int x4), (5, .int x5)] 119 []) → ∀ (n_35 : Nat) (x5 : Int32) (x6 : Int32), f_X8_listen_M_L35 N k_35 x1 x2 x3 x4 I A n_35 x5 x6 = some res → g_At (dC, dI) p l e (headSpec wsX8_listen rm_X8_listen_M).room s m args below meth c Q (wM a cy I A T) sz 9 (wM a cy I A T) [(0, .ref (a 0)), (1, .int x1), (2, .int x2), (3, .int x3), (4, .int x4), (5, .int x5), (6, .int x6)] 35 [] := by
            intro x1 x2 x3 x4 k_35 hk_35 n_35
            induction n_35 with
            | zero =>
              intro x5 x6 h
              exact absurd h (by rw [f_X8_listen_M_L35]; exact fun q => by cases q)
            | succ n_35 ih35 =>
              intro x5 x6 h H locs hP hD hS ls hl
              rw [f_X8_listen_M_L35] at h
              refine lv_iload hx hb dX8_listen_35 (lv_at hl 6 rfl) ?_
              refine lv_iconst (v := 3) hx hb dX8_listen_37 (by decide) ?_
              refine lv_icmp_ge (tgt := 119) hx hb dX8_listen_38 (by decide) (fun c7 => ?_) (fun c7 => ?_)
              · replace h := ite_t h c7
                exact hk_35 _ _ h _ _ hP hD hS _ (lv_sub hl [0, 1, 2, 3, 4, 5] rfl)
              · replace h := ite_f h c7
                refine lv_iconst (v := 0) hx hb dX8_listen_41 (by decide) ?_
                refine lv_istore (lv' := [(7, .int 0), (0, .ref (a 0)), (1, .int x1), (2, .int x2), (3, .int x3), (4, .int x4), (5, .int x5), (6, .int x6)]) hx hb dX8_listen_42 hl (by decide) rfl (fun ls hl => ?_)
                refine lv_iconst (v := 0) hx hb dX8_listen_44 (by decide) ?_
                refine lv_istore (lv' := [(8, .int 0), (7, .int 0), (0, .ref (a 0)), (1, .int x1), (2, .int x2), (3, .int x3), (4, .int x4), (5, .int x5), (6, .int x6)]) hx hb dX8_listen_45 hl (by decide) rfl (fun ls hl => ?_)
                have lp47 : ∀ (x1 : Int32) (x2 : Int32) (x3 : Int32) (x4 : Int32) (x5 : Int32) (x6 : Int32) (k_47 : Int32 → Int32 → Option (Int32)), (∀ (x7 : Int32) (x8 : Int32), k_47 x7 x8 = some res → g_At (dC, dI) p l e (headSpec wsX8_listen rm_X8_listen_M).room s m args below meth c Q (wM a cy I A T) sz 9 (wM a cy I A T) [(0, .ref (a 0)), (1, .int x1), (2, .int x2), (3, .int x3), (4, .int x4), (5, .int x5), (6, .int x6), (7, .int x7)] 97 []) → ∀ (n_47 : Nat) (x7 : Int32) (x8 : Int32), f_X8_listen_M_L47 N k_47 x1 x2 x3 x4 x5 x6 I A n_47 x7 x8 = some res → g_At (dC, dI) p l e (headSpec wsX8_listen rm_X8_listen_M).room s m args below meth c Q (wM a cy I A T) sz 9 (wM a cy I A T) [(0, .ref (a 0)), (1, .int x1), (2, .int x2), (3, .int x3), (4, .int x4), (5, .int x5), (6, .int x6), (7, .int x7), (8, .int x8)] 47 [] := by
                  intro x1 x2 x3 x4 x5 x6 k_47 hk_47 n_47
                  induction n_47 with
                  | zero =>
                    intro x7 x8 h
                    exact absurd h (by rw [f_X8_listen_M_L47]; exact fun q => by cases q)
                  | succ n_47 ih47 =>
                    intro x7 x8 h H locs hP hD hS ls hl
                    rw [f_X8_listen_M_L47] at h
                    refine lv_iload hx hb dX8_listen_47 (lv_at hl 8 rfl) ?_
                    refine lv_aload_n hx hb dX8_listen_49 rfl (lv_at hl 0 rfl) ?_
                    refine va_get (D := (dC, dI)) (ci := 8) (v := .ref (a 2)) (C := RX8) (T := TX8) (N := 19) hx hb hts inX8_listen_X8 hown hK hP 0 (eM_0 a cy I A T) rfl 3 (by decide) (hts _ mX8_listen_0) (fun _ h9 => h9) rfl dX8_listen_50 ?_
                    refine lv_iconst (v := 0) hx hb dX8_listen_53 (by decide) ?_
                    refine g_iald (f := (A 1)) (j := 0) hx hb hK hP 2 (eM_2 a cy I A T) (lit_in (by decide) : vp_in 0 23) rfl dX8_listen_54 ?_
                    refine lv_icmp_ge (tgt := 97) hx hb dX8_listen_55 (by decide) (fun c9 => ?_) (fun c9 => ?_)
                    · replace h := ite_t h c9
                      exact hk_47 _ _ h _ _ hP hD hS _ (lv_sub hl [0, 1, 2, 3, 4, 5, 6, 7] rfl)
                    · replace h := ite_f h c9
                      refine lv_iload hx hb dX8_listen_58 (lv_at hl 7 rfl) ?_
                      refine lv_iload_n hx hb dX8_listen_60 rfl (lv_at hl 1 rfl) ?_
                      refine lv_iload hx hb dX8_listen_61 (lv_at hl 8 rfl) ?_
                      refine lv_ishr hx hb dX8_listen_63 ?_
                      refine lv_iconst (v := 1) hx hb dX8_listen_64 (by decide) ?_
                      refine lv_iand hx hb dX8_listen_65 ?_
                      refine lv_iconst (v := 1) hx hb dX8_listen_66 (by decide) ?_
                      refine lv_icmp_ne (tgt := 87) hx hb dX8_listen_67 (by decide) (fun c10 => ?_) (fun c10 => ?_)
                      · replace h := ite_f h c10
                        refine lv_iconst (v := 0) hx hb dX8_listen_87 (by decide) ?_
                        refine lv_iadd hx hb dX8_listen_88 ?_
                        refine lv_istore (lv' := [(7, .int (x7 + 0)), (0, .ref (a 0)), (1, .int x1), (2, .int x2), (3, .int x3), (4, .int x4), (5, .int x5), (6, .int x6), (8, .int x8)]) hx hb dX8_listen_89 hl (by decide) rfl (fun ls hl => ?_)
                        refine lv_iinc (v := (x8 + 1)) (lv' := [(8, .int (x8 + 1)), (7, .int (x7 + 0)), (0, .ref (a 0)), (1, .int x1), (2, .int x2), (3, .int x3), (4, .int x4), (5, .int x5), (6, .int x6)]) hx hb dX8_listen_91 hl (k := 8) rfl rfl (by decide) rfl (fun ls hl => ?_)
                        refine lv_goto (tgt := 47) hx hb dX8_listen_94 (by decide) ?_
                        exact ih47 _ _ h _ _ hP hD hS _ (lv_sub hl [2, 3, 4, 5, 6, 7, 8, 1, 0] rfl)
                      · replace h := ite_t h c10
                        refine lv_aload_n hx hb dX8_listen_70 rfl (lv_at hl 0 rfl) ?_
                        refine lv_iload hx hb dX8_listen_71 (lv_at hl 8 rfl) ?_
                        refine lv_iload hx hb dX8_listen_73 (lv_at hl 4 rfl) ?_
                        obtain ⟨r11, hr11, h⟩ := bnd_some h
                        refine g_callVi (As := [.int x8, .int x4]) (rest := [.int x7]) (ci := 8) (q0 := 0) hx hb hml hown hts (c_X8_soundIn_M l dC dI a cy N I A T x8 x4 r11 hr11) (cwV 2 hts gX8_listen_X8_soundIn rfl rfl rfl (by decide +kernel) ⟨Nat.le_of_ble_eq_true rfl, Nat.le_of_ble_eq_true rfl⟩) hK hP hD hS hA rfl (eM_0 a cy I A T) rfl rfl hl.1 rfl (Nat.le_of_ble_eq_true rfl) dX8_listen_75 (fun H locs hP hD hS => ?_)
                        refine lv_iload hx hb dX8_listen_78 (lv_at hl 6 rfl) ?_
                        refine lv_icmp_ne (tgt := 87) hx hb dX8_listen_80 (by decide) (fun c12 => ?_) (fun c12 => ?_)
                        · replace h := ite_f h c12
                          refine lv_iconst (v := 0) hx hb dX8_listen_87 (by decide) ?_
                          refine lv_iadd hx hb dX8_listen_88 ?_
                          refine lv_istore (lv' := [(7, .int (x7 + 0)), (0, .ref (a 0)), (1, .int x1), (2, .int x2), (3, .int x3), (4, .int x4), (5, .int x5), (6, .int x6), (8, .int x8)]) hx hb dX8_listen_89 hl (by decide) rfl (fun ls hl => ?_)
                          refine lv_iinc (v := (x8 + 1)) (lv' := [(8, .int (x8 + 1)), (7, .int (x7 + 0)), (0, .ref (a 0)), (1, .int x1), (2, .int x2), (3, .int x3), (4, .int x4), (5, .int x5), (6, .int x6)]) hx hb dX8_listen_91 hl (k := 8) rfl rfl (by decide) rfl (fun ls hl => ?_)
                          refine lv_goto (tgt := 47) hx hb dX8_listen_94 (by decide) ?_
                          exact ih47 _ _ h _ _ hP hD hS _ (lv_sub hl [2, 3, 4, 5, 6, 7, 8, 1, 0] rfl)
                        · replace h := ite_t h c12
                          refine lv_iconst (v := 1) hx hb dX8_listen_83 (by decide) ?_
                          refine lv_goto (tgt := 88) hx hb dX8_listen_84 (by decide) ?_
                          refine lv_iadd hx hb dX8_listen_88 ?_
                          refine lv_istore (lv' := [(7, .int (x7 + 1)), (0, .ref (a 0)), (1, .int x1), (2, .int x2), (3, .int x3), (4, .int x4), (5, .int x5), (6, .int x6), (8, .int x8)]) hx hb dX8_listen_89 hl (by decide) rfl (fun ls hl => ?_)
                          refine lv_iinc (v := (x8 + 1)) (lv' := [(8, .int (x8 + 1)), (7, .int (x7 + 1)), (0, .ref (a 0)), (1, .int x1), (2, .int x2), (3, .int x3), (4, .int x4), (5, .int x5), (6, .int x6)]) hx hb dX8_listen_91 hl (k := 8) rfl rfl (by decide) rfl (fun ls hl => ?_)
                          refine lv_goto (tgt := 47) hx hb dX8_listen_94 (by decide) ?_
                          exact ih47 _ _ h _ _ hP hD hS _ (lv_sub hl [2, 3, 4, 5, 6, 7, 8, 1, 0] rfl)
                refine lp47 _ _ _ _ _ _ _ ?_ N _ _ h _ _ hP hD hS _ (lv_sub hl [2, 3, 4, 5, 6, 7, 8, 1, 0] rfl)
                intro x7 x8 h H locs hP hD hS ls hl
                refine lv_iload hx hb dX8_listen_97 (lv_at hl 7 rfl) ?_
                refine lv_iload hx hb dX8_listen_99 (lv_at hl 5 rfl) ?_
                refine lv_icmp_le (tgt := 109) hx hb dX8_listen_101 (by decide) (fun c8 => ?_) (fun c8 => ?_)
                · replace h := ite_t h c8
                  refine lv_iload hx hb dX8_listen_109 (lv_at hl 5 rfl) ?_
                  refine lv_istore (lv' := [(5, .int x5), (0, .ref (a 0)), (1, .int x1), (2, .int x2), (3, .int x3), (4, .int x4), (6, .int x6), (7, .int x7)]) hx hb dX8_listen_111 hl (by decide) rfl (fun ls hl => ?_)
                  refine lv_iinc (v := (x6 + 1)) (lv' := [(6, .int (x6 + 1)), (5, .int x5), (0, .ref (a 0)), (1, .int x1), (2, .int x2), (3, .int x3), (4, .int x4), (7, .int x7)]) hx hb dX8_listen_113 hl (k := 6) rfl rfl (by decide) rfl (fun ls hl => ?_)
                  refine lv_goto (tgt := 35) hx hb dX8_listen_116 (by decide) ?_
                  exact ih35 _ _ h _ _ hP hD hS _ (lv_sub hl [2, 3, 4, 5, 6, 1, 0] rfl)
                · replace h := ite_f h c8
                  refine lv_iload hx hb dX8_listen_104 (lv_at hl 7 rfl) ?_
                  refine lv_goto (tgt := 111) hx hb dX8_listen_106 (by decide) ?_
                  refine lv_istore (lv' := [(5, .int x7), (0, .ref (a 0)), (1, .int x1), (2, .int x2), (3, .int x3), (4, .int x4), (6, .int x6), (7, .int x7)]) hx hb dX8_listen_111 hl (by decide) rfl (fun ls hl => ?_)
                  refine lv_iinc (v := (x6 + 1)) (lv' := [(6, .int (x6 + 1)), (5, .int x7), (0, .ref (a 0)), (1, .int x1), (2, .int x2), (3, .int x3), (4, .int x4), (7, .int x7)]) hx hb dX8_listen_113 hl (k := 6) rfl rfl (by decide) rfl (fun ls hl => ?_)
                  refine lv_goto (tgt := 35) hx hb dX8_listen_116 (by decide) ?_
                  exact ih35 _ _ h _ _ hP hD hS _ (lv_sub hl [2, 3, 4, 5, 6, 1, 0] rfl)
          refine lp35 _ _ _ _ _ ?_ N _ _ h _ _ hP hD hS _ (lv_sub hl [2, 3, 4, 5, 6, 1, 0] rfl)
          intro x5 x6 h H locs hP hD hS ls hl
          refine lv_iload hx hb dX8_listen_119 (lv_at hl 5 rfl) ?_
          refine lv_iload_n hx hb dX8_listen_121 rfl (lv_at hl 3 rfl) ?_
          refine lv_icmp_ge (tgt := 130) hx hb dX8_listen_122 (by decide) (fun c4 => ?_) (fun c4 => ?_)
          · replace h := ite_t h c4
            refine lv_iload_n hx hb dX8_listen_130 rfl (lv_at hl 2 rfl) ?_
            refine lv_istore_n (lv' := [(2, .int x2), (0, .ref (a 0)), (1, .int x1), (3, .int x3), (4, .int x4), (5, .int x5)]) hx hb dX8_listen_131 rfl hl (by decide) rfl (fun ls hl => ?_)
            refine lv_iload hx hb dX8_listen_132 (lv_at hl 5 rfl) ?_
            refine lv_iload_n hx hb dX8_listen_134 rfl (lv_at hl 3 rfl) ?_
            refine lv_icmp_ge (tgt := 143) hx hb dX8_listen_135 (by decide) (fun _ => ?_) (fun c5 => absurd c4 c5)
            refine lv_iload_n hx hb dX8_listen_143 rfl (lv_at hl 3 rfl) ?_
            refine lv_istore_n (lv' := [(3, .int x3), (2, .int x2), (0, .ref (a 0)), (1, .int x1), (4, .int x4), (5, .int x5)]) hx hb dX8_listen_144 rfl hl (by decide) rfl (fun ls hl => ?_)
            refine lv_iinc (v := (x4 + 1)) (lv' := [(4, .int (x4 + 1)), (3, .int x3), (2, .int x2), (0, .ref (a 0)), (1, .int x1), (5, .int x5)]) hx hb dX8_listen_145 hl (k := 4) rfl rfl (by decide) rfl (fun ls hl => ?_)
            refine lv_goto (tgt := 14) hx hb dX8_listen_148 (by decide) ?_
            exact ih14 _ _ _ h _ _ hP hD hS _ (lv_sub hl [3, 4, 2, 1, 0] rfl)
          · replace h := ite_f h c4
            refine lv_iload hx hb dX8_listen_125 (lv_at hl 4 rfl) ?_
            refine lv_goto (tgt := 131) hx hb dX8_listen_127 (by decide) ?_
            refine lv_istore_n (lv' := [(2, .int x4), (0, .ref (a 0)), (1, .int x1), (3, .int x3), (4, .int x4), (5, .int x5)]) hx hb dX8_listen_131 rfl hl (by decide) rfl (fun ls hl => ?_)
            refine lv_iload hx hb dX8_listen_132 (lv_at hl 5 rfl) ?_
            refine lv_iload_n hx hb dX8_listen_134 rfl (lv_at hl 3 rfl) ?_
            refine lv_icmp_ge (tgt := 143) hx hb dX8_listen_135 (by decide) (fun c6 => absurd c6 c4) (fun _ => ?_)
            refine lv_iload hx hb dX8_listen_138 (lv_at hl 5 rfl) ?_
            refine lv_goto (tgt := 144) hx hb dX8_listen_140 (by decide) ?_
            refine lv_istore_n (lv' := [(3, .int x5), (2, .int x4), (0, .ref (a 0)), (1, .int x1), (4, .int x4), (5, .int x5)]) hx hb dX8_listen_144 rfl hl (by decide) rfl (fun ls hl => ?_)
            refine lv_iinc (v := (x4 + 1)) (lv' := [(4, .int (x4 + 1)), (3, .int x5), (2, .int x4), (0, .ref (a 0)), (1, .int x1), (5, .int x5)]) hx hb dX8_listen_145 hl (k := 4) rfl rfl (by decide) rfl (fun ls hl => ?_)
            refine lv_goto (tgt := 14) hx hb dX8_listen_148 (by decide) ?_
            exact ih14 _ _ _ h _ _ hP hD hS _ (lv_sub hl [3, 4, 2, 1, 0] rfl)
  refine lp14 _ _ ?_ N _ _ _ h _ _ hP hD hS _ (lv_sub hl [4, 3, 2, 1, 0] rfl)
  intro x2 x3 x4 h H locs hP hD hS ls hl
  refine lv_iload_n hx hb dX8_listen_151 rfl (lv_at hl 0 rfl) ?_
  obtain rfl := Option.some.inj h
  exact g_iret hx hb hr hK hP hD hS hQ dX8_listen_152
theorem mX8_rate_0 : Cond.constant RX8 151 (-1000000) ∈ wsX8_rate := List.mem_of_getElem? (i := 1) rfl
theorem inX8_rate_X8 : ∀ w ∈ u_ws RX8 TX8 19, w ∈ wsX8_rate := by decide +kernel
theorem mX8_rate_1 : Cond.fieldLink RX8 152 "WarmBottlesModel" "trace" "J" ∈ wsX8_rate := List.mem_of_getElem? (i := 2) rfl
theorem mX8_rate_2 : Cond.constantLong RX8 164 (100001) ∈ wsX8_rate := List.mem_of_getElem? (i := 7) rfl
theorem mX8_rate_3 : Cond.fieldLink RX8 19 "WarmBottlesModel" "s" "[I" ∈ wsX8_rate := List.mem_of_getElem? (i := 8) rfl
theorem mX8_rate_4 : Cond.fieldLink RX8 13 "WarmBottlesModel" "told" "[I" ∈ wsX8_rate := List.mem_of_getElem? (i := 9) rfl
theorem mX8_rate_5 : Cond.constantLong RX8 162 (10101) ∈ wsX8_rate := List.mem_of_getElem? (i := 6) rfl
theorem mX8_rate_6 : Cond.constantLong RX8 160 (1011) ∈ wsX8_rate := List.mem_of_getElem? (i := 5) rfl
theorem mX8_rate_7 : Cond.constantLong RX8 158 (101) ∈ wsX8_rate := List.mem_of_getElem? (i := 4) rfl
theorem mX8_rate_8 : Cond.constantLong RX8 156 (11) ∈ wsX8_rate := List.mem_of_getElem? (i := 3) rfl
def rm_X8_rate_M : Room := { frames := 7, cells := 0, slots := 0, locals := 330 }
def f_X8_rate_M (N : Nat) (I : Nat → Int32) (A : Nat → Nat → Int32) (T : Int64) (p1 : Int32) (p2 : Int32) : Option (Int32 × Int64) := (Option.bind (f_X8_in_M N I A p1 0 5) (fun r1 => (if r1 = 0 then some ((-1000000), T) else (Option.bind (f_X8_isBottle_M N I A p2) (fun r3 => (if r3 = 0 then some ((-1000000), T) else (if p1 = 0 then (if (3 + p2) < 0 ∨ 15 ≤ ((3 + p2)).toNatClampNeg then none else (if (17 + p2) < 0 ∨ 23 ≤ ((17 + p2)).toNatClampNeg then none else (if (11 + p2) < 0 ∨ 23 ≤ ((11 + p2)).toNatClampNeg then none else some (((A 3) ((3 + p2)).toNatClampNeg), (T + 1))))) else (if p1 = 1 then (if (3 + p2) < 0 ∨ 15 ≤ ((3 + p2)).toNatClampNeg then none else (if (17 + p2) < 0 ∨ 23 ≤ ((17 + p2)).toNatClampNeg then none else (if (11 + p2) < 0 ∨ 23 ≤ ((11 + p2)).toNatClampNeg then none else some ((((A 3) ((3 + p2)).toNatClampNeg) + ((A 1) ((17 + p2)).toNatClampNeg)), (T + 11))))) else (if p1 = 2 then (if (3 + p2) < 0 ∨ 15 ≤ ((3 + p2)).toNatClampNeg then none else (if (17 + p2) < 0 ∨ 23 ≤ ((17 + p2)).toNatClampNeg then none else (if (11 + p2) < 0 ∨ 23 ≤ ((11 + p2)).toNatClampNeg then none else some ((((A 3) ((3 + p2)).toNatClampNeg) - ((A 1) ((11 + p2)).toNatClampNeg)), (T + 101))))) else (if p1 = 3 then (if (3 + p2) < 0 ∨ 15 ≤ ((3 + p2)).toNatClampNeg then none else (if (17 + p2) < 0 ∨ 23 ≤ ((17 + p2)).toNatClampNeg then none else (if (11 + p2) < 0 ∨ 23 ≤ ((11 + p2)).toNatClampNeg then none else some ((2 * (((A 3) ((3 + p2)).toNatClampNeg) + ((A 1) ((17 + p2)).toNatClampNeg))), (T + 1011))))) else (if p1 = 4 then (if (3 + p2) < 0 ∨ 15 ≤ ((3 + p2)).toNatClampNeg then none else (if (17 + p2) < 0 ∨ 23 ≤ ((17 + p2)).toNatClampNeg then none else (if (11 + p2) < 0 ∨ 23 ≤ ((11 + p2)).toNatClampNeg then none else some (((((A 3) ((3 + p2)).toNatClampNeg) - ((A 1) ((11 + p2)).toNatClampNeg)) + p2), (T + 10101))))) else (if (3 + p2) < 0 ∨ 15 ≤ ((3 + p2)).toNatClampNeg then none else (if (17 + p2) < 0 ∨ 23 ≤ ((17 + p2)).toNatClampNeg then none else (if (11 + p2) < 0 ∨ 23 ≤ ((11 + p2)).toNatClampNeg then none else some ((((A 3) ((3 + p2)).toNatClampNeg) + ((A 3) 2)), (T + 100001))))))))))))))))
set_option maxHeartbeats 4000000 in
set_option maxRecDepth 100000 in
theorem c_X8_rate_M (l : Launch) (dC : Nat → ClassId) (dI : Nat → Nat → Nat) (a : Nat → Nat) (cy : Nat → ClassId) (N : Nat) (I : Nat → Int32) (A : Nat → Nat → Int32) (T : Int64) (p1 : Int32) (p2 : Int32) (res : Int32 × Int64) (h : f_X8_rate_M N I A T p1 p2 = some res) (sz : Nat) : Met l yX8_rate wsX8_rate rm_X8_rate_M (g_Pre (dC, dI) cy [.ref (a 0), .int p1, .int p2] (wM a cy I A T) sz) (g_Qi (dC, dI) cy res.1 (wM a cy I A T) (wM a cy I A res.2) sz) 0 0 (va_A (wM a cy I A T) sz) := by
  unfold f_X8_rate_M at h
  refine g_entry _ _ _ _ _ _ (cc := cX8_rate) (maxL := 6) (ret := (some .int)) (by decide) rfl (Nat.le_of_ble_eq_true rfl) ?_
  intro p e s m args below meth c ls hx hb hml hown hts hr hlocks hA hK hP hD hS hl Q hQ
  have hl : lv_has ls 6 [(0, .ref (a 0)), (1, .int p1), (2, .int p2)] := hl
  have hown : s.vm.findClass RX8 = some m.cls := hown
  refine lv_iload_n hx hb dX8_rate_0 rfl (lv_at hl 1 rfl) ?_
  refine lv_iconst (v := 0) hx hb dX8_rate_1 (by decide) ?_
  refine lv_iconst (v := 5) hx hb dX8_rate_2 (by decide) ?_
  obtain ⟨r1, hr1, h⟩ := bnd_some h
  refine g_callSi (As := [.int p1, .int 0, .int 5]) (rest := []) hx hb hml hown hts (c_X8_in_M l dC dI a cy N I A T p1 0 5 r1 hr1) (va_cwS 3 hts gX8_rate_X8_in rfl rfl rfl (by decide +kernel) ⟨Nat.le_of_ble_eq_true rfl, Nat.le_of_ble_eq_true rfl⟩) hK hP hD hS hA rfl hl.1 rfl (Nat.le_of_ble_eq_true rfl) dX8_rate_3 (fun H locs hP hD hS => ?_)
  refine lv_if_eq (tgt := 17) hx hb dX8_rate_6 (by decide) (fun c2 => ?_) (fun c2 => ?_)
  · replace h := ite_t h c2
    refine lv_ldc (v := (-1000000)) hx hb hown (hts _ mX8_rate_0) dX8_rate_17 ?_
    obtain rfl := Option.some.inj h
    exact g_iret hx hb hr hK hP hD hS hQ dX8_rate_19
  · replace h := ite_f h c2
    refine lv_aload_n hx hb dX8_rate_9 rfl (lv_at hl 0 rfl) ?_
    refine lv_iload_n hx hb dX8_rate_10 rfl (lv_at hl 2 rfl) ?_
    obtain ⟨r3, hr3, h⟩ := bnd_some h
    refine g_callVi (As := [.int p2]) (rest := []) (ci := 8) (q0 := 0) hx hb hml hown hts (c_X8_isBottle_M l dC dI a cy N I A T p2 r3 hr3) (cwV 1 hts gX8_rate_X8_isBottle rfl rfl rfl (by decide +kernel) ⟨Nat.le_of_ble_eq_true rfl, Nat.le_of_ble_eq_true rfl⟩) hK hP hD hS hA rfl (eM_0 a cy I A T) rfl rfl hl.1 rfl (Nat.le_of_ble_eq_true rfl) dX8_rate_11 (fun H locs hP hD hS => ?_)
    refine lv_if_ne (tgt := 20) hx hb dX8_rate_14 (by decide) (fun c4 => ?_) (fun c4 => ?_)
    · replace h := ite_f h c4
      refine lv_aload_n hx hb dX8_rate_20 rfl (lv_at hl 0 rfl) ?_
      refine lv_dup hx hb dX8_rate_21 rfl ?_
      refine va_get (D := (dC, dI)) (ci := 8) (v := .long T) (C := RX8) (T := TX8) (N := 19) hx hb hts inX8_rate_X8 hown hK hP 0 (eM_0 a cy I A T) rfl 0 (by decide) (hts _ mX8_rate_1) (fun _ h9 => h9) rfl dX8_rate_22 ?_
      refine lv_iload_n hx hb dX8_rate_25 rfl (lv_at hl 1 rfl) ?_
      refine lv_if_ne (tgt := 33) hx hb dX8_rate_26 (by decide) (fun c5 => ?_) (fun c5 => ?_)
      · replace h := ite_f h c5
        refine lv_iload_n hx hb dX8_rate_33 rfl (lv_at hl 1 rfl) ?_
        refine lv_iconst (v := 1) hx hb dX8_rate_34 (by decide) ?_
        refine lv_icmp_ne (tgt := 44) hx hb dX8_rate_35 (by decide) (fun c6 => ?_) (fun c6 => ?_)
        · replace h := ite_f h c6
          refine lv_iload_n hx hb dX8_rate_44 rfl (lv_at hl 1 rfl) ?_
          refine lv_iconst (v := 2) hx hb dX8_rate_45 (by decide) ?_
          refine lv_icmp_ne (tgt := 55) hx hb dX8_rate_46 (by decide) (fun c7 => ?_) (fun c7 => ?_)
          · replace h := ite_f h c7
            refine lv_iload_n hx hb dX8_rate_55 rfl (lv_at hl 1 rfl) ?_
            refine lv_iconst (v := 3) hx hb dX8_rate_56 (by decide) ?_
            refine lv_icmp_ne (tgt := 66) hx hb dX8_rate_57 (by decide) (fun c8 => ?_) (fun c8 => ?_)
            · replace h := ite_f h c8
              refine lv_iload_n hx hb dX8_rate_66 rfl (lv_at hl 1 rfl) ?_
              refine lv_iconst (v := 4) hx hb dX8_rate_67 (by decide) ?_
              refine lv_icmp_ne (tgt := 77) hx hb dX8_rate_68 (by decide) (fun c9 => ?_) (fun c9 => ?_)
              · replace h := ite_f h c9
                refine lv_ldc2 (v := 100001) hx hb hown (hts _ mX8_rate_2) dX8_rate_77 ?_
                refine lv_ladd hx hb dX8_rate_80 ?_
                refine g_put (D := (dC, dI)) (ci := 8) (v := .long (T + 100001)) (ty := .long) (C := RX8) (T := TX8) (N := 19) hx hb hts inX8_rate_X8 tyX8 tyX8_ok nmX8 hown hK hP hD hS 0 (eM_0 a cy I A T) rfl 0 (by decide) (hts _ mX8_rate_1) (fun _ h9 => h9) rfl (by decide +kernel) rfl rfl (Nat.le_of_ble_eq_true rfl) dX8_rate_81 (pM_0_0 a cy I A T (T + 100001)) (fun H locs hP hD hS => ?_)
                refine lv_aload_n hx hb dX8_rate_84 rfl (lv_at hl 0 rfl) ?_
                refine va_get (D := (dC, dI)) (ci := 8) (v := .ref (a 4)) (C := RX8) (T := TX8) (N := 19) hx hb hts inX8_rate_X8 hown hK hP 0 (eM_0 a cy I A (T + 100001)) rfl 5 (by decide) (hts _ mX8_rate_3) (fun _ h9 => h9) rfl dX8_rate_85 ?_
                refine lv_iconst (v := 3) hx hb dX8_rate_88 (by decide) ?_
                refine lv_iload_n hx hb dX8_rate_89 rfl (lv_at hl 2 rfl) ?_
                refine lv_iadd hx hb dX8_rate_90 ?_
                obtain ⟨i10, h⟩ := inb_some h
                refine g_iald (f := (A 3)) (j := ((3 + p2)).toNatClampNeg) hx hb hK hP 4 (eM_4 a cy I A (T + 100001)) i10 rfl dX8_rate_91 ?_
                refine lv_istore_n (lv' := [(3, .int ((A 3) ((3 + p2)).toNatClampNeg)), (0, .ref (a 0)), (1, .int p1), (2, .int p2)]) hx hb dX8_rate_92 rfl hl (by decide) rfl (fun ls hl => ?_)
                refine lv_iload_n hx hb dX8_rate_93 rfl (lv_at hl 0 rfl) ?_
                refine lv_aload_n hx hb dX8_rate_94 rfl (lv_at hl 1 rfl) ?_
                refine va_get (D := (dC, dI)) (ci := 8) (v := .ref (a 2)) (C := RX8) (T := TX8) (N := 19) hx hb hts inX8_rate_X8 hown hK hP 0 (eM_0 a cy I A (T + 100001)) rfl 3 (by decide) (hts _ mX8_rate_4) (fun _ h9 => h9) rfl dX8_rate_95 ?_
                refine lv_bipush (v := 17) hx hb dX8_rate_98 (by decide) ?_
                refine lv_iload_n hx hb dX8_rate_100 rfl (lv_at hl 3 rfl) ?_
                refine lv_iadd hx hb dX8_rate_101 ?_
                obtain ⟨i11, h⟩ := inb_some h
                refine g_iald (f := (A 1)) (j := ((17 + p2)).toNatClampNeg) hx hb hK hP 2 (eM_2 a cy I A (T + 100001)) i11 rfl dX8_rate_102 ?_
                refine lv_iadd hx hb dX8_rate_103 ?_
                refine lv_istore (lv' := [(4, .int (((A 3) ((3 + p2)).toNatClampNeg) + ((A 1) ((17 + p2)).toNatClampNeg))), (3, .int ((A 3) ((3 + p2)).toNatClampNeg)), (0, .ref (a 0)), (1, .int p1), (2, .int p2)]) hx hb dX8_rate_104 hl (by decide) rfl (fun ls hl => ?_)
                refine lv_iload_n hx hb dX8_rate_106 rfl (lv_at hl 1 rfl) ?_
                refine lv_aload_n hx hb dX8_rate_107 rfl (lv_at hl 2 rfl) ?_
                refine va_get (D := (dC, dI)) (ci := 8) (v := .ref (a 2)) (C := RX8) (T := TX8) (N := 19) hx hb hts inX8_rate_X8 hown hK hP 0 (eM_0 a cy I A (T + 100001)) rfl 3 (by decide) (hts _ mX8_rate_4) (fun _ h9 => h9) rfl dX8_rate_108 ?_
                refine lv_bipush (v := 11) hx hb dX8_rate_111 (by decide) ?_
                refine lv_iload_n hx hb dX8_rate_113 rfl (lv_at hl 4 rfl) ?_
                refine lv_iadd hx hb dX8_rate_114 ?_
                obtain ⟨i12, h⟩ := inb_some h
                refine g_iald (f := (A 1)) (j := ((11 + p2)).toNatClampNeg) hx hb hK hP 2 (eM_2 a cy I A (T + 100001)) i12 rfl dX8_rate_115 ?_
                refine lv_isub hx hb dX8_rate_116 ?_
                refine lv_istore (lv' := [(5, .int (((A 3) ((3 + p2)).toNatClampNeg) - ((A 1) ((11 + p2)).toNatClampNeg))), (4, .int (((A 3) ((3 + p2)).toNatClampNeg) + ((A 1) ((17 + p2)).toNatClampNeg))), (3, .int ((A 3) ((3 + p2)).toNatClampNeg)), (0, .ref (a 0)), (1, .int p1), (2, .int p2)]) hx hb dX8_rate_117 hl (by decide) rfl (fun ls hl => ?_)
                refine lv_iload_n hx hb dX8_rate_119 rfl (lv_at hl 4 rfl) ?_
                refine lv_if_ne (tgt := 127) hx hb dX8_rate_120 (by decide) (fun _ => ?_) (fun c13 => absurd c13 c5)
                refine lv_iload_n hx hb dX8_rate_127 rfl (lv_at hl 4 rfl) ?_
                refine lv_iconst (v := 1) hx hb dX8_rate_128 (by decide) ?_
                refine lv_icmp_ne (tgt := 137) hx hb dX8_rate_129 (by decide) (fun _ => ?_) (fun c14 => absurd c14 c6)
                refine lv_iload_n hx hb dX8_rate_137 rfl (lv_at hl 4 rfl) ?_
                refine lv_iconst (v := 2) hx hb dX8_rate_138 (by decide) ?_
                refine lv_icmp_ne (tgt := 147) hx hb dX8_rate_139 (by decide) (fun _ => ?_) (fun c15 => absurd c15 c7)
                refine lv_iload_n hx hb dX8_rate_147 rfl (lv_at hl 4 rfl) ?_
                refine lv_iconst (v := 3) hx hb dX8_rate_148 (by decide) ?_
                refine lv_icmp_ne (tgt := 159) hx hb dX8_rate_149 (by decide) (fun _ => ?_) (fun c16 => absurd c16 c8)
                refine lv_iload_n hx hb dX8_rate_159 rfl (lv_at hl 4 rfl) ?_
                refine lv_iconst (v := 4) hx hb dX8_rate_160 (by decide) ?_
                refine lv_icmp_ne (tgt := 171) hx hb dX8_rate_161 (by decide) (fun _ => ?_) (fun c17 => absurd c17 c9)
                refine lv_iload_n hx hb dX8_rate_171 rfl (lv_at hl 2 rfl) ?_
                refine lv_aload_n hx hb dX8_rate_172 rfl (lv_at hl 3 rfl) ?_
                refine va_get (D := (dC, dI)) (ci := 8) (v := .ref (a 4)) (C := RX8) (T := TX8) (N := 19) hx hb hts inX8_rate_X8 hown hK hP 0 (eM_0 a cy I A (T + 100001)) rfl 5 (by decide) (hts _ mX8_rate_3) (fun _ h9 => h9) rfl dX8_rate_173 ?_
                refine lv_iconst (v := 2) hx hb dX8_rate_176 (by decide) ?_
                refine g_iald (f := (A 3)) (j := 2) hx hb hK hP 4 (eM_4 a cy I A (T + 100001)) (lit_in (by decide) : vp_in 2 15) rfl dX8_rate_177 ?_
                refine lv_iadd hx hb dX8_rate_178 ?_
                obtain rfl := Option.some.inj h
                exact g_iret hx hb hr hK hP hD hS hQ dX8_rate_179
              · replace h := ite_t h c9
                refine lv_ldc2 (v := 10101) hx hb hown (hts _ mX8_rate_5) dX8_rate_71 ?_
                refine lv_goto (tgt := 80) hx hb dX8_rate_74 (by decide) ?_
                refine lv_ladd hx hb dX8_rate_80 ?_
                refine g_put (D := (dC, dI)) (ci := 8) (v := .long (T + 10101)) (ty := .long) (C := RX8) (T := TX8) (N := 19) hx hb hts inX8_rate_X8 tyX8 tyX8_ok nmX8 hown hK hP hD hS 0 (eM_0 a cy I A T) rfl 0 (by decide) (hts _ mX8_rate_1) (fun _ h9 => h9) rfl (by decide +kernel) rfl rfl (Nat.le_of_ble_eq_true rfl) dX8_rate_81 (pM_0_0 a cy I A T (T + 10101)) (fun H locs hP hD hS => ?_)
                refine lv_aload_n hx hb dX8_rate_84 rfl (lv_at hl 0 rfl) ?_
                refine va_get (D := (dC, dI)) (ci := 8) (v := .ref (a 4)) (C := RX8) (T := TX8) (N := 19) hx hb hts inX8_rate_X8 hown hK hP 0 (eM_0 a cy I A (T + 10101)) rfl 5 (by decide) (hts _ mX8_rate_3) (fun _ h9 => h9) rfl dX8_rate_85 ?_
                refine lv_iconst (v := 3) hx hb dX8_rate_88 (by decide) ?_
                refine lv_iload_n hx hb dX8_rate_89 rfl (lv_at hl 2 rfl) ?_
                refine lv_iadd hx hb dX8_rate_90 ?_
                obtain ⟨i18, h⟩ := inb_some h
                refine g_iald (f := (A 3)) (j := ((3 + p2)).toNatClampNeg) hx hb hK hP 4 (eM_4 a cy I A (T + 10101)) i18 rfl dX8_rate_91 ?_
                refine lv_istore_n (lv' := [(3, .int ((A 3) ((3 + p2)).toNatClampNeg)), (0, .ref (a 0)), (1, .int p1), (2, .int p2)]) hx hb dX8_rate_92 rfl hl (by decide) rfl (fun ls hl => ?_)
                refine lv_iload_n hx hb dX8_rate_93 rfl (lv_at hl 0 rfl) ?_
                refine lv_aload_n hx hb dX8_rate_94 rfl (lv_at hl 1 rfl) ?_
                refine va_get (D := (dC, dI)) (ci := 8) (v := .ref (a 2)) (C := RX8) (T := TX8) (N := 19) hx hb hts inX8_rate_X8 hown hK hP 0 (eM_0 a cy I A (T + 10101)) rfl 3 (by decide) (hts _ mX8_rate_4) (fun _ h9 => h9) rfl dX8_rate_95 ?_
                refine lv_bipush (v := 17) hx hb dX8_rate_98 (by decide) ?_
                refine lv_iload_n hx hb dX8_rate_100 rfl (lv_at hl 3 rfl) ?_
                refine lv_iadd hx hb dX8_rate_101 ?_
                obtain ⟨i19, h⟩ := inb_some h
                refine g_iald (f := (A 1)) (j := ((17 + p2)).toNatClampNeg) hx hb hK hP 2 (eM_2 a cy I A (T + 10101)) i19 rfl dX8_rate_102 ?_
                refine lv_iadd hx hb dX8_rate_103 ?_
                refine lv_istore (lv' := [(4, .int (((A 3) ((3 + p2)).toNatClampNeg) + ((A 1) ((17 + p2)).toNatClampNeg))), (3, .int ((A 3) ((3 + p2)).toNatClampNeg)), (0, .ref (a 0)), (1, .int p1), (2, .int p2)]) hx hb dX8_rate_104 hl (by decide) rfl (fun ls hl => ?_)
                refine lv_iload_n hx hb dX8_rate_106 rfl (lv_at hl 1 rfl) ?_
                refine lv_aload_n hx hb dX8_rate_107 rfl (lv_at hl 2 rfl) ?_
                refine va_get (D := (dC, dI)) (ci := 8) (v := .ref (a 2)) (C := RX8) (T := TX8) (N := 19) hx hb hts inX8_rate_X8 hown hK hP 0 (eM_0 a cy I A (T + 10101)) rfl 3 (by decide) (hts _ mX8_rate_4) (fun _ h9 => h9) rfl dX8_rate_108 ?_
                refine lv_bipush (v := 11) hx hb dX8_rate_111 (by decide) ?_
                refine lv_iload_n hx hb dX8_rate_113 rfl (lv_at hl 4 rfl) ?_
                refine lv_iadd hx hb dX8_rate_114 ?_
                obtain ⟨i20, h⟩ := inb_some h
                refine g_iald (f := (A 1)) (j := ((11 + p2)).toNatClampNeg) hx hb hK hP 2 (eM_2 a cy I A (T + 10101)) i20 rfl dX8_rate_115 ?_
                refine lv_isub hx hb dX8_rate_116 ?_
                refine lv_istore (lv' := [(5, .int (((A 3) ((3 + p2)).toNatClampNeg) - ((A 1) ((11 + p2)).toNatClampNeg))), (4, .int (((A 3) ((3 + p2)).toNatClampNeg) + ((A 1) ((17 + p2)).toNatClampNeg))), (3, .int ((A 3) ((3 + p2)).toNatClampNeg)), (0, .ref (a 0)), (1, .int p1), (2, .int p2)]) hx hb dX8_rate_117 hl (by decide) rfl (fun ls hl => ?_)
                refine lv_iload_n hx hb dX8_rate_119 rfl (lv_at hl 4 rfl) ?_
                refine lv_if_ne (tgt := 127) hx hb dX8_rate_120 (by decide) (fun _ => ?_) (fun c21 => absurd c21 c5)
                refine lv_iload_n hx hb dX8_rate_127 rfl (lv_at hl 4 rfl) ?_
                refine lv_iconst (v := 1) hx hb dX8_rate_128 (by decide) ?_
                refine lv_icmp_ne (tgt := 137) hx hb dX8_rate_129 (by decide) (fun _ => ?_) (fun c22 => absurd c22 c6)
                refine lv_iload_n hx hb dX8_rate_137 rfl (lv_at hl 4 rfl) ?_
                refine lv_iconst (v := 2) hx hb dX8_rate_138 (by decide) ?_
                refine lv_icmp_ne (tgt := 147) hx hb dX8_rate_139 (by decide) (fun _ => ?_) (fun c23 => absurd c23 c7)
                refine lv_iload_n hx hb dX8_rate_147 rfl (lv_at hl 4 rfl) ?_
                refine lv_iconst (v := 3) hx hb dX8_rate_148 (by decide) ?_
                refine lv_icmp_ne (tgt := 159) hx hb dX8_rate_149 (by decide) (fun _ => ?_) (fun c24 => absurd c24 c8)
                refine lv_iload_n hx hb dX8_rate_159 rfl (lv_at hl 4 rfl) ?_
                refine lv_iconst (v := 4) hx hb dX8_rate_160 (by decide) ?_
                refine lv_icmp_ne (tgt := 171) hx hb dX8_rate_161 (by decide) (fun c25 => absurd c9 c25) (fun _ => ?_)
                refine lv_iload hx hb dX8_rate_164 (lv_at hl 0 rfl) ?_
                refine lv_iload_n hx hb dX8_rate_166 rfl (lv_at hl 5 rfl) ?_
                refine lv_iadd hx hb dX8_rate_167 ?_
                refine lv_goto (tgt := 179) hx hb dX8_rate_168 (by decide) ?_
                obtain rfl := Option.some.inj h
                exact g_iret hx hb hr hK hP hD hS hQ dX8_rate_179
            · replace h := ite_t h c8
              refine lv_ldc2 (v := 1011) hx hb hown (hts _ mX8_rate_6) dX8_rate_60 ?_
              refine lv_goto (tgt := 80) hx hb dX8_rate_63 (by decide) ?_
              refine lv_ladd hx hb dX8_rate_80 ?_
              refine g_put (D := (dC, dI)) (ci := 8) (v := .long (T + 1011)) (ty := .long) (C := RX8) (T := TX8) (N := 19) hx hb hts inX8_rate_X8 tyX8 tyX8_ok nmX8 hown hK hP hD hS 0 (eM_0 a cy I A T) rfl 0 (by decide) (hts _ mX8_rate_1) (fun _ h9 => h9) rfl (by decide +kernel) rfl rfl (Nat.le_of_ble_eq_true rfl) dX8_rate_81 (pM_0_0 a cy I A T (T + 1011)) (fun H locs hP hD hS => ?_)
              refine lv_aload_n hx hb dX8_rate_84 rfl (lv_at hl 0 rfl) ?_
              refine va_get (D := (dC, dI)) (ci := 8) (v := .ref (a 4)) (C := RX8) (T := TX8) (N := 19) hx hb hts inX8_rate_X8 hown hK hP 0 (eM_0 a cy I A (T + 1011)) rfl 5 (by decide) (hts _ mX8_rate_3) (fun _ h9 => h9) rfl dX8_rate_85 ?_
              refine lv_iconst (v := 3) hx hb dX8_rate_88 (by decide) ?_
              refine lv_iload_n hx hb dX8_rate_89 rfl (lv_at hl 2 rfl) ?_
              refine lv_iadd hx hb dX8_rate_90 ?_
              obtain ⟨i26, h⟩ := inb_some h
              refine g_iald (f := (A 3)) (j := ((3 + p2)).toNatClampNeg) hx hb hK hP 4 (eM_4 a cy I A (T + 1011)) i26 rfl dX8_rate_91 ?_
              refine lv_istore_n (lv' := [(3, .int ((A 3) ((3 + p2)).toNatClampNeg)), (0, .ref (a 0)), (1, .int p1), (2, .int p2)]) hx hb dX8_rate_92 rfl hl (by decide) rfl (fun ls hl => ?_)
              refine lv_iload_n hx hb dX8_rate_93 rfl (lv_at hl 0 rfl) ?_
              refine lv_aload_n hx hb dX8_rate_94 rfl (lv_at hl 1 rfl) ?_
              refine va_get (D := (dC, dI)) (ci := 8) (v := .ref (a 2)) (C := RX8) (T := TX8) (N := 19) hx hb hts inX8_rate_X8 hown hK hP 0 (eM_0 a cy I A (T + 1011)) rfl 3 (by decide) (hts _ mX8_rate_4) (fun _ h9 => h9) rfl dX8_rate_95 ?_
              refine lv_bipush (v := 17) hx hb dX8_rate_98 (by decide) ?_
              refine lv_iload_n hx hb dX8_rate_100 rfl (lv_at hl 3 rfl) ?_
              refine lv_iadd hx hb dX8_rate_101 ?_
              obtain ⟨i27, h⟩ := inb_some h
              refine g_iald (f := (A 1)) (j := ((17 + p2)).toNatClampNeg) hx hb hK hP 2 (eM_2 a cy I A (T + 1011)) i27 rfl dX8_rate_102 ?_
              refine lv_iadd hx hb dX8_rate_103 ?_
              refine lv_istore (lv' := [(4, .int (((A 3) ((3 + p2)).toNatClampNeg) + ((A 1) ((17 + p2)).toNatClampNeg))), (3, .int ((A 3) ((3 + p2)).toNatClampNeg)), (0, .ref (a 0)), (1, .int p1), (2, .int p2)]) hx hb dX8_rate_104 hl (by decide) rfl (fun ls hl => ?_)
              refine lv_iload_n hx hb dX8_rate_106 rfl (lv_at hl 1 rfl) ?_
              refine lv_aload_n hx hb dX8_rate_107 rfl (lv_at hl 2 rfl) ?_
              refine va_get (D := (dC, dI)) (ci := 8) (v := .ref (a 2)) (C := RX8) (T := TX8) (N := 19) hx hb hts inX8_rate_X8 hown hK hP 0 (eM_0 a cy I A (T + 1011)) rfl 3 (by decide) (hts _ mX8_rate_4) (fun _ h9 => h9) rfl dX8_rate_108 ?_
              refine lv_bipush (v := 11) hx hb dX8_rate_111 (by decide) ?_
              refine lv_iload_n hx hb dX8_rate_113 rfl (lv_at hl 4 rfl) ?_
              refine lv_iadd hx hb dX8_rate_114 ?_
              obtain ⟨i28, h⟩ := inb_some h
              refine g_iald (f := (A 1)) (j := ((11 + p2)).toNatClampNeg) hx hb hK hP 2 (eM_2 a cy I A (T + 1011)) i28 rfl dX8_rate_115 ?_
              refine lv_isub hx hb dX8_rate_116 ?_
              refine lv_istore (lv' := [(5, .int (((A 3) ((3 + p2)).toNatClampNeg) - ((A 1) ((11 + p2)).toNatClampNeg))), (4, .int (((A 3) ((3 + p2)).toNatClampNeg) + ((A 1) ((17 + p2)).toNatClampNeg))), (3, .int ((A 3) ((3 + p2)).toNatClampNeg)), (0, .ref (a 0)), (1, .int p1), (2, .int p2)]) hx hb dX8_rate_117 hl (by decide) rfl (fun ls hl => ?_)
              refine lv_iload_n hx hb dX8_rate_119 rfl (lv_at hl 4 rfl) ?_
              refine lv_if_ne (tgt := 127) hx hb dX8_rate_120 (by decide) (fun _ => ?_) (fun c29 => absurd c29 c5)
              refine lv_iload_n hx hb dX8_rate_127 rfl (lv_at hl 4 rfl) ?_
              refine lv_iconst (v := 1) hx hb dX8_rate_128 (by decide) ?_
              refine lv_icmp_ne (tgt := 137) hx hb dX8_rate_129 (by decide) (fun _ => ?_) (fun c30 => absurd c30 c6)
              refine lv_iload_n hx hb dX8_rate_137 rfl (lv_at hl 4 rfl) ?_
              refine lv_iconst (v := 2) hx hb dX8_rate_138 (by decide) ?_
              refine lv_icmp_ne (tgt := 147) hx hb dX8_rate_139 (by decide) (fun _ => ?_) (fun c31 => absurd c31 c7)
              refine lv_iload_n hx hb dX8_rate_147 rfl (lv_at hl 4 rfl) ?_
              refine lv_iconst (v := 3) hx hb dX8_rate_148 (by decide) ?_
              refine lv_icmp_ne (tgt := 159) hx hb dX8_rate_149 (by decide) (fun c32 => absurd c8 c32) (fun _ => ?_)
              refine lv_iconst (v := 2) hx hb dX8_rate_152 (by decide) ?_
              refine lv_iload hx hb dX8_rate_153 (lv_at hl 1 rfl) ?_
              refine lv_imul hx hb dX8_rate_155 ?_
              refine lv_goto (tgt := 179) hx hb dX8_rate_156 (by decide) ?_
              obtain rfl := Option.some.inj h
              exact g_iret hx hb hr hK hP hD hS hQ dX8_rate_179
          · replace h := ite_t h c7
            refine lv_ldc2 (v := 101) hx hb hown (hts _ mX8_rate_7) dX8_rate_49 ?_
            refine lv_goto (tgt := 80) hx hb dX8_rate_52 (by decide) ?_
            refine lv_ladd hx hb dX8_rate_80 ?_
            refine g_put (D := (dC, dI)) (ci := 8) (v := .long (T + 101)) (ty := .long) (C := RX8) (T := TX8) (N := 19) hx hb hts inX8_rate_X8 tyX8 tyX8_ok nmX8 hown hK hP hD hS 0 (eM_0 a cy I A T) rfl 0 (by decide) (hts _ mX8_rate_1) (fun _ h9 => h9) rfl (by decide +kernel) rfl rfl (Nat.le_of_ble_eq_true rfl) dX8_rate_81 (pM_0_0 a cy I A T (T + 101)) (fun H locs hP hD hS => ?_)
            refine lv_aload_n hx hb dX8_rate_84 rfl (lv_at hl 0 rfl) ?_
            refine va_get (D := (dC, dI)) (ci := 8) (v := .ref (a 4)) (C := RX8) (T := TX8) (N := 19) hx hb hts inX8_rate_X8 hown hK hP 0 (eM_0 a cy I A (T + 101)) rfl 5 (by decide) (hts _ mX8_rate_3) (fun _ h9 => h9) rfl dX8_rate_85 ?_
            refine lv_iconst (v := 3) hx hb dX8_rate_88 (by decide) ?_
            refine lv_iload_n hx hb dX8_rate_89 rfl (lv_at hl 2 rfl) ?_
            refine lv_iadd hx hb dX8_rate_90 ?_
            obtain ⟨i33, h⟩ := inb_some h
            refine g_iald (f := (A 3)) (j := ((3 + p2)).toNatClampNeg) hx hb hK hP 4 (eM_4 a cy I A (T + 101)) i33 rfl dX8_rate_91 ?_
            refine lv_istore_n (lv' := [(3, .int ((A 3) ((3 + p2)).toNatClampNeg)), (0, .ref (a 0)), (1, .int p1), (2, .int p2)]) hx hb dX8_rate_92 rfl hl (by decide) rfl (fun ls hl => ?_)
            refine lv_iload_n hx hb dX8_rate_93 rfl (lv_at hl 0 rfl) ?_
            refine lv_aload_n hx hb dX8_rate_94 rfl (lv_at hl 1 rfl) ?_
            refine va_get (D := (dC, dI)) (ci := 8) (v := .ref (a 2)) (C := RX8) (T := TX8) (N := 19) hx hb hts inX8_rate_X8 hown hK hP 0 (eM_0 a cy I A (T + 101)) rfl 3 (by decide) (hts _ mX8_rate_4) (fun _ h9 => h9) rfl dX8_rate_95 ?_
            refine lv_bipush (v := 17) hx hb dX8_rate_98 (by decide) ?_
            refine lv_iload_n hx hb dX8_rate_100 rfl (lv_at hl 3 rfl) ?_
            refine lv_iadd hx hb dX8_rate_101 ?_
            obtain ⟨i34, h⟩ := inb_some h
            refine g_iald (f := (A 1)) (j := ((17 + p2)).toNatClampNeg) hx hb hK hP 2 (eM_2 a cy I A (T + 101)) i34 rfl dX8_rate_102 ?_
            refine lv_iadd hx hb dX8_rate_103 ?_
            refine lv_istore (lv' := [(4, .int (((A 3) ((3 + p2)).toNatClampNeg) + ((A 1) ((17 + p2)).toNatClampNeg))), (3, .int ((A 3) ((3 + p2)).toNatClampNeg)), (0, .ref (a 0)), (1, .int p1), (2, .int p2)]) hx hb dX8_rate_104 hl (by decide) rfl (fun ls hl => ?_)
            refine lv_iload_n hx hb dX8_rate_106 rfl (lv_at hl 1 rfl) ?_
            refine lv_aload_n hx hb dX8_rate_107 rfl (lv_at hl 2 rfl) ?_
            refine va_get (D := (dC, dI)) (ci := 8) (v := .ref (a 2)) (C := RX8) (T := TX8) (N := 19) hx hb hts inX8_rate_X8 hown hK hP 0 (eM_0 a cy I A (T + 101)) rfl 3 (by decide) (hts _ mX8_rate_4) (fun _ h9 => h9) rfl dX8_rate_108 ?_
            refine lv_bipush (v := 11) hx hb dX8_rate_111 (by decide) ?_
            refine lv_iload_n hx hb dX8_rate_113 rfl (lv_at hl 4 rfl) ?_
            refine lv_iadd hx hb dX8_rate_114 ?_
            obtain ⟨i35, h⟩ := inb_some h
            refine g_iald (f := (A 1)) (j := ((11 + p2)).toNatClampNeg) hx hb hK hP 2 (eM_2 a cy I A (T + 101)) i35 rfl dX8_rate_115 ?_
            refine lv_isub hx hb dX8_rate_116 ?_
            refine lv_istore (lv' := [(5, .int (((A 3) ((3 + p2)).toNatClampNeg) - ((A 1) ((11 + p2)).toNatClampNeg))), (4, .int (((A 3) ((3 + p2)).toNatClampNeg) + ((A 1) ((17 + p2)).toNatClampNeg))), (3, .int ((A 3) ((3 + p2)).toNatClampNeg)), (0, .ref (a 0)), (1, .int p1), (2, .int p2)]) hx hb dX8_rate_117 hl (by decide) rfl (fun ls hl => ?_)
            refine lv_iload_n hx hb dX8_rate_119 rfl (lv_at hl 4 rfl) ?_
            refine lv_if_ne (tgt := 127) hx hb dX8_rate_120 (by decide) (fun _ => ?_) (fun c36 => absurd c36 c5)
            refine lv_iload_n hx hb dX8_rate_127 rfl (lv_at hl 4 rfl) ?_
            refine lv_iconst (v := 1) hx hb dX8_rate_128 (by decide) ?_
            refine lv_icmp_ne (tgt := 137) hx hb dX8_rate_129 (by decide) (fun _ => ?_) (fun c37 => absurd c37 c6)
            refine lv_iload_n hx hb dX8_rate_137 rfl (lv_at hl 4 rfl) ?_
            refine lv_iconst (v := 2) hx hb dX8_rate_138 (by decide) ?_
            refine lv_icmp_ne (tgt := 147) hx hb dX8_rate_139 (by decide) (fun c38 => absurd c7 c38) (fun _ => ?_)
            refine lv_iload hx hb dX8_rate_142 (lv_at hl 0 rfl) ?_
            refine lv_goto (tgt := 179) hx hb dX8_rate_144 (by decide) ?_
            obtain rfl := Option.some.inj h
            exact g_iret hx hb hr hK hP hD hS hQ dX8_rate_179
        · replace h := ite_t h c6
          refine lv_ldc2 (v := 11) hx hb hown (hts _ mX8_rate_8) dX8_rate_38 ?_
          refine lv_goto (tgt := 80) hx hb dX8_rate_41 (by decide) ?_
          refine lv_ladd hx hb dX8_rate_80 ?_
          refine g_put (D := (dC, dI)) (ci := 8) (v := .long (T + 11)) (ty := .long) (C := RX8) (T := TX8) (N := 19) hx hb hts inX8_rate_X8 tyX8 tyX8_ok nmX8 hown hK hP hD hS 0 (eM_0 a cy I A T) rfl 0 (by decide) (hts _ mX8_rate_1) (fun _ h9 => h9) rfl (by decide +kernel) rfl rfl (Nat.le_of_ble_eq_true rfl) dX8_rate_81 (pM_0_0 a cy I A T (T + 11)) (fun H locs hP hD hS => ?_)
          refine lv_aload_n hx hb dX8_rate_84 rfl (lv_at hl 0 rfl) ?_
          refine va_get (D := (dC, dI)) (ci := 8) (v := .ref (a 4)) (C := RX8) (T := TX8) (N := 19) hx hb hts inX8_rate_X8 hown hK hP 0 (eM_0 a cy I A (T + 11)) rfl 5 (by decide) (hts _ mX8_rate_3) (fun _ h9 => h9) rfl dX8_rate_85 ?_
          refine lv_iconst (v := 3) hx hb dX8_rate_88 (by decide) ?_
          refine lv_iload_n hx hb dX8_rate_89 rfl (lv_at hl 2 rfl) ?_
          refine lv_iadd hx hb dX8_rate_90 ?_
          obtain ⟨i39, h⟩ := inb_some h
          refine g_iald (f := (A 3)) (j := ((3 + p2)).toNatClampNeg) hx hb hK hP 4 (eM_4 a cy I A (T + 11)) i39 rfl dX8_rate_91 ?_
          refine lv_istore_n (lv' := [(3, .int ((A 3) ((3 + p2)).toNatClampNeg)), (0, .ref (a 0)), (1, .int p1), (2, .int p2)]) hx hb dX8_rate_92 rfl hl (by decide) rfl (fun ls hl => ?_)
          refine lv_iload_n hx hb dX8_rate_93 rfl (lv_at hl 0 rfl) ?_
          refine lv_aload_n hx hb dX8_rate_94 rfl (lv_at hl 1 rfl) ?_
          refine va_get (D := (dC, dI)) (ci := 8) (v := .ref (a 2)) (C := RX8) (T := TX8) (N := 19) hx hb hts inX8_rate_X8 hown hK hP 0 (eM_0 a cy I A (T + 11)) rfl 3 (by decide) (hts _ mX8_rate_4) (fun _ h9 => h9) rfl dX8_rate_95 ?_
          refine lv_bipush (v := 17) hx hb dX8_rate_98 (by decide) ?_
          refine lv_iload_n hx hb dX8_rate_100 rfl (lv_at hl 3 rfl) ?_
          refine lv_iadd hx hb dX8_rate_101 ?_
          obtain ⟨i40, h⟩ := inb_some h
          refine g_iald (f := (A 1)) (j := ((17 + p2)).toNatClampNeg) hx hb hK hP 2 (eM_2 a cy I A (T + 11)) i40 rfl dX8_rate_102 ?_
          refine lv_iadd hx hb dX8_rate_103 ?_
          refine lv_istore (lv' := [(4, .int (((A 3) ((3 + p2)).toNatClampNeg) + ((A 1) ((17 + p2)).toNatClampNeg))), (3, .int ((A 3) ((3 + p2)).toNatClampNeg)), (0, .ref (a 0)), (1, .int p1), (2, .int p2)]) hx hb dX8_rate_104 hl (by decide) rfl (fun ls hl => ?_)
          refine lv_iload_n hx hb dX8_rate_106 rfl (lv_at hl 1 rfl) ?_
          refine lv_aload_n hx hb dX8_rate_107 rfl (lv_at hl 2 rfl) ?_
          refine va_get (D := (dC, dI)) (ci := 8) (v := .ref (a 2)) (C := RX8) (T := TX8) (N := 19) hx hb hts inX8_rate_X8 hown hK hP 0 (eM_0 a cy I A (T + 11)) rfl 3 (by decide) (hts _ mX8_rate_4) (fun _ h9 => h9) rfl dX8_rate_108 ?_
          refine lv_bipush (v := 11) hx hb dX8_rate_111 (by decide) ?_
          refine lv_iload_n hx hb dX8_rate_113 rfl (lv_at hl 4 rfl) ?_
          refine lv_iadd hx hb dX8_rate_114 ?_
          obtain ⟨i41, h⟩ := inb_some h
          refine g_iald (f := (A 1)) (j := ((11 + p2)).toNatClampNeg) hx hb hK hP 2 (eM_2 a cy I A (T + 11)) i41 rfl dX8_rate_115 ?_
          refine lv_isub hx hb dX8_rate_116 ?_
          refine lv_istore (lv' := [(5, .int (((A 3) ((3 + p2)).toNatClampNeg) - ((A 1) ((11 + p2)).toNatClampNeg))), (4, .int (((A 3) ((3 + p2)).toNatClampNeg) + ((A 1) ((17 + p2)).toNatClampNeg))), (3, .int ((A 3) ((3 + p2)).toNatClampNeg)), (0, .ref (a 0)), (1, .int p1), (2, .int p2)]) hx hb dX8_rate_117 hl (by decide) rfl (fun ls hl => ?_)
          refine lv_iload_n hx hb dX8_rate_119 rfl (lv_at hl 4 rfl) ?_
          refine lv_if_ne (tgt := 127) hx hb dX8_rate_120 (by decide) (fun _ => ?_) (fun c42 => absurd c42 c5)
          refine lv_iload_n hx hb dX8_rate_127 rfl (lv_at hl 4 rfl) ?_
          refine lv_iconst (v := 1) hx hb dX8_rate_128 (by decide) ?_
          refine lv_icmp_ne (tgt := 137) hx hb dX8_rate_129 (by decide) (fun c43 => absurd c6 c43) (fun _ => ?_)
          refine lv_iload hx hb dX8_rate_132 (lv_at hl 1 rfl) ?_
          refine lv_goto (tgt := 179) hx hb dX8_rate_134 (by decide) ?_
          obtain rfl := Option.some.inj h
          exact g_iret hx hb hr hK hP hD hS hQ dX8_rate_179
      · replace h := ite_t h c5
        refine lv_lconst (v := 1) hx hb dX8_rate_29 (by decide) ?_
        refine lv_goto (tgt := 80) hx hb dX8_rate_30 (by decide) ?_
        refine lv_ladd hx hb dX8_rate_80 ?_
        refine g_put (D := (dC, dI)) (ci := 8) (v := .long (T + 1)) (ty := .long) (C := RX8) (T := TX8) (N := 19) hx hb hts inX8_rate_X8 tyX8 tyX8_ok nmX8 hown hK hP hD hS 0 (eM_0 a cy I A T) rfl 0 (by decide) (hts _ mX8_rate_1) (fun _ h9 => h9) rfl (by decide +kernel) rfl rfl (Nat.le_of_ble_eq_true rfl) dX8_rate_81 (pM_0_0 a cy I A T (T + 1)) (fun H locs hP hD hS => ?_)
        refine lv_aload_n hx hb dX8_rate_84 rfl (lv_at hl 0 rfl) ?_
        refine va_get (D := (dC, dI)) (ci := 8) (v := .ref (a 4)) (C := RX8) (T := TX8) (N := 19) hx hb hts inX8_rate_X8 hown hK hP 0 (eM_0 a cy I A (T + 1)) rfl 5 (by decide) (hts _ mX8_rate_3) (fun _ h9 => h9) rfl dX8_rate_85 ?_
        refine lv_iconst (v := 3) hx hb dX8_rate_88 (by decide) ?_
        refine lv_iload_n hx hb dX8_rate_89 rfl (lv_at hl 2 rfl) ?_
        refine lv_iadd hx hb dX8_rate_90 ?_
        obtain ⟨i44, h⟩ := inb_some h
        refine g_iald (f := (A 3)) (j := ((3 + p2)).toNatClampNeg) hx hb hK hP 4 (eM_4 a cy I A (T + 1)) i44 rfl dX8_rate_91 ?_
        refine lv_istore_n (lv' := [(3, .int ((A 3) ((3 + p2)).toNatClampNeg)), (0, .ref (a 0)), (1, .int p1), (2, .int p2)]) hx hb dX8_rate_92 rfl hl (by decide) rfl (fun ls hl => ?_)
        refine lv_iload_n hx hb dX8_rate_93 rfl (lv_at hl 0 rfl) ?_
        refine lv_aload_n hx hb dX8_rate_94 rfl (lv_at hl 1 rfl) ?_
        refine va_get (D := (dC, dI)) (ci := 8) (v := .ref (a 2)) (C := RX8) (T := TX8) (N := 19) hx hb hts inX8_rate_X8 hown hK hP 0 (eM_0 a cy I A (T + 1)) rfl 3 (by decide) (hts _ mX8_rate_4) (fun _ h9 => h9) rfl dX8_rate_95 ?_
        refine lv_bipush (v := 17) hx hb dX8_rate_98 (by decide) ?_
        refine lv_iload_n hx hb dX8_rate_100 rfl (lv_at hl 3 rfl) ?_
        refine lv_iadd hx hb dX8_rate_101 ?_
        obtain ⟨i45, h⟩ := inb_some h
        refine g_iald (f := (A 1)) (j := ((17 + p2)).toNatClampNeg) hx hb hK hP 2 (eM_2 a cy I A (T + 1)) i45 rfl dX8_rate_102 ?_
        refine lv_iadd hx hb dX8_rate_103 ?_
        refine lv_istore (lv' := [(4, .int (((A 3) ((3 + p2)).toNatClampNeg) + ((A 1) ((17 + p2)).toNatClampNeg))), (3, .int ((A 3) ((3 + p2)).toNatClampNeg)), (0, .ref (a 0)), (1, .int p1), (2, .int p2)]) hx hb dX8_rate_104 hl (by decide) rfl (fun ls hl => ?_)
        refine lv_iload_n hx hb dX8_rate_106 rfl (lv_at hl 1 rfl) ?_
        refine lv_aload_n hx hb dX8_rate_107 rfl (lv_at hl 2 rfl) ?_
        refine va_get (D := (dC, dI)) (ci := 8) (v := .ref (a 2)) (C := RX8) (T := TX8) (N := 19) hx hb hts inX8_rate_X8 hown hK hP 0 (eM_0 a cy I A (T + 1)) rfl 3 (by decide) (hts _ mX8_rate_4) (fun _ h9 => h9) rfl dX8_rate_108 ?_
        refine lv_bipush (v := 11) hx hb dX8_rate_111 (by decide) ?_
        refine lv_iload_n hx hb dX8_rate_113 rfl (lv_at hl 4 rfl) ?_
        refine lv_iadd hx hb dX8_rate_114 ?_
        obtain ⟨i46, h⟩ := inb_some h
        refine g_iald (f := (A 1)) (j := ((11 + p2)).toNatClampNeg) hx hb hK hP 2 (eM_2 a cy I A (T + 1)) i46 rfl dX8_rate_115 ?_
        refine lv_isub hx hb dX8_rate_116 ?_
        refine lv_istore (lv' := [(5, .int (((A 3) ((3 + p2)).toNatClampNeg) - ((A 1) ((11 + p2)).toNatClampNeg))), (4, .int (((A 3) ((3 + p2)).toNatClampNeg) + ((A 1) ((17 + p2)).toNatClampNeg))), (3, .int ((A 3) ((3 + p2)).toNatClampNeg)), (0, .ref (a 0)), (1, .int p1), (2, .int p2)]) hx hb dX8_rate_117 hl (by decide) rfl (fun ls hl => ?_)
        refine lv_iload_n hx hb dX8_rate_119 rfl (lv_at hl 4 rfl) ?_
        refine lv_if_ne (tgt := 127) hx hb dX8_rate_120 (by decide) (fun c47 => absurd c5 c47) (fun _ => ?_)
        refine lv_iload_n hx hb dX8_rate_123 rfl (lv_at hl 2 rfl) ?_
        refine lv_goto (tgt := 179) hx hb dX8_rate_124 (by decide) ?_
        obtain rfl := Option.some.inj h
        exact g_iret hx hb hr hK hP hD hS hQ dX8_rate_179
    · replace h := ite_t h c4
      refine lv_ldc (v := (-1000000)) hx hb hown (hts _ mX8_rate_0) dX8_rate_17 ?_
      obtain rfl := Option.some.inj h
      exact g_iret hx hb hr hK hP hD hS hQ dX8_rate_19
theorem inX8_keep_X8 : ∀ w ∈ u_ws RX8 TX8 19, w ∈ wsX8_keep := by decide +kernel
theorem mX8_keep_0 : Cond.fieldLink RX8 28 "WarmBottlesModel" "kept" "[Z" ∈ wsX8_keep := List.mem_of_getElem? (i := 3) rfl
theorem mX8_keep_1 : Cond.fieldLink RX8 19 "WarmBottlesModel" "s" "[I" ∈ wsX8_keep := List.mem_of_getElem? (i := 2) rfl
theorem mX8_keep_2 : Cond.fieldLink RX8 25 "WarmBottlesModel" "images" "[I" ∈ wsX8_keep := List.mem_of_getElem? (i := 1) rfl
def rm_X8_keep_M : Room := { frames := 5, cells := 0, slots := 0, locals := 270 }
def f_X8_keep_M_L13 (N : Nat) (k_13 : Int32 → (Nat → Nat → Int32) → Option (Int32 × (Nat → Nat → Int32))) (x1 : Int32) (I : (Nat → Int32)) : Nat → Int32 → (Nat → Nat → Int32) → Option (Int32 × (Nat → Nat → Int32))
  | 0, _, _ => none
  | n_13 + 1, x2, A_13 => (if 15 ≤ x2 then (k_13 x2 A_13) else (if x2 < 0 ∨ 15 ≤ x2.toNatClampNeg then none else (if ((15 * x1) + x2) < 0 ∨ 30 ≤ (((15 * x1) + x2)).toNatClampNeg then none else (f_X8_keep_M_L13 N k_13 x1 I n_13 (x2 + 1) (va_up A_13 5 (upd (A_13 5) (((15 * x1) + x2)).toNatClampNeg ((A_13 3) x2.toNatClampNeg)))))))
def f_X8_keep_M (N : Nat) (I : Nat → Int32) (A : Nat → Nat → Int32) (p1 : Int32) : Option (Int32 × (Nat → Nat → Int32)) := (Option.bind (f_X8_in_M N I A p1 0 1) (fun r1 => (if r1 = 0 then some ((-1), A) else (f_X8_keep_M_L13 N (fun (x2 : Int32) (A_13 : (Nat → Nat → Int32)) => (if p1 < 0 ∨ 2 ≤ p1.toNatClampNeg then none else some (((A_13 3) 0), (va_up A_13 6 (upd (A_13 6) p1.toNatClampNeg (vp_nar .boolean 1)))))) p1 I N 0 A))))
set_option maxHeartbeats 4000000 in
set_option maxRecDepth 100000 in
theorem c_X8_keep_M (l : Launch) (dC : Nat → ClassId) (dI : Nat → Nat → Nat) (a : Nat → Nat) (cy : Nat → ClassId) (N : Nat) (I : Nat → Int32) (A : Nat → Nat → Int32) (T : Int64) (p1 : Int32) (res : Int32 × (Nat → Nat → Int32)) (h : f_X8_keep_M N I A p1 = some res) (sz : Nat) : Met l yX8_keep wsX8_keep rm_X8_keep_M (g_Pre (dC, dI) cy [.ref (a 0), .int p1] (wM a cy I A T) sz) (g_Qi (dC, dI) cy res.1 (wM a cy I A T) (wM a cy I res.2 T) sz) 0 0 (va_A (wM a cy I A T) sz) := by
  unfold f_X8_keep_M at h
  refine g_entry _ _ _ _ _ _ (cc := cX8_keep) (maxL := 3) (ret := (some .int)) (by decide) rfl (Nat.le_of_ble_eq_true rfl) ?_
  intro p e s m args below meth c ls hx hb hml hown hts hr hlocks hA hK hP hD hS hl Q hQ
  have hl : lv_has ls 3 [(0, .ref (a 0)), (1, .int p1)] := hl
  have hown : s.vm.findClass RX8 = some m.cls := hown
  refine lv_iload_n hx hb dX8_keep_0 rfl (lv_at hl 1 rfl) ?_
  refine lv_iconst (v := 0) hx hb dX8_keep_1 (by decide) ?_
  refine lv_iconst (v := 1) hx hb dX8_keep_2 (by decide) ?_
  obtain ⟨r1, hr1, h⟩ := bnd_some h
  refine g_callSi (As := [.int p1, .int 0, .int 1]) (rest := []) hx hb hml hown hts (c_X8_in_M l dC dI a cy N I A T p1 0 1 r1 hr1) (va_cwS 3 hts gX8_keep_X8_in rfl rfl rfl (by decide +kernel) ⟨Nat.le_of_ble_eq_true rfl, Nat.le_of_ble_eq_true rfl⟩) hK hP hD hS hA rfl hl.1 rfl (Nat.le_of_ble_eq_true rfl) dX8_keep_3 (fun H locs hP hD hS => ?_)
  refine lv_if_ne (tgt := 11) hx hb dX8_keep_6 (by decide) (fun c2 => ?_) (fun c2 => ?_)
  · replace h := ite_f h c2
    refine lv_iconst (v := 0) hx hb dX8_keep_11 (by decide) ?_
    refine lv_istore_n (lv' := [(2, .int 0), (0, .ref (a 0)), (1, .int p1)]) hx hb dX8_keep_12 rfl hl (by decide) rfl (fun ls hl => ?_)
    have lp13 : ∀ (x1 : Int32) (k_13 : Int32 → (Nat → Nat → Int32) → Option (Int32 × (Nat → Nat → Int32))), (∀ (x2 : Int32) (A_13 : (Nat → Nat → Int32)), k_13 x2 A_13 = some res → g_At (dC, dI) p l e (headSpec wsX8_keep rm_X8_keep_M).room s m args below meth c Q (wM a cy I A T) sz 3 (wM a cy I A_13 T) [(0, .ref (a 0)), (1, .int x1)] 42 []) → ∀ (n_13 : Nat) (x2 : Int32) (A_13 : (Nat → Nat → Int32)), f_X8_keep_M_L13 N k_13 x1 I n_13 x2 A_13 = some res → g_At (dC, dI) p l e (headSpec wsX8_keep rm_X8_keep_M).room s m args below meth c Q (wM a cy I A T) sz 3 (wM a cy I A_13 T) [(0, .ref (a 0)), (1, .int x1), (2, .int x2)] 13 [] := by
      intro x1 k_13 hk_13 n_13
      induction n_13 with
      | zero =>
        intro x2 A_13 h
        exact absurd h (by rw [f_X8_keep_M_L13]; exact fun q => by cases q)
      | succ n_13 ih13 =>
        intro x2 A_13 h H locs hP hD hS ls hl
        rw [f_X8_keep_M_L13] at h
        refine lv_iload_n hx hb dX8_keep_13 rfl (lv_at hl 2 rfl) ?_
        refine lv_bipush (v := 15) hx hb dX8_keep_14 (by decide) ?_
        refine lv_icmp_ge (tgt := 42) hx hb dX8_keep_16 (by decide) (fun c4 => ?_) (fun c4 => ?_)
        · replace h := ite_t h c4
          exact hk_13 _ _ h _ _ hP hD hS _ (lv_sub hl [0, 1] rfl)
        · replace h := ite_f h c4
          refine lv_aload_n hx hb dX8_keep_19 rfl (lv_at hl 0 rfl) ?_
          refine va_get (D := (dC, dI)) (ci := 8) (v := .ref (a 6)) (C := RX8) (T := TX8) (N := 19) hx hb hts inX8_keep_X8 hown hK hP 0 (eM_0 a cy I A_13 T) rfl 8 (by decide) (hts _ mX8_keep_2) (fun _ h9 => h9) rfl dX8_keep_20 ?_
          refine lv_bipush (v := 15) hx hb dX8_keep_23 (by decide) ?_
          refine lv_iload_n hx hb dX8_keep_25 rfl (lv_at hl 1 rfl) ?_
          refine lv_imul hx hb dX8_keep_26 ?_
          refine lv_iload_n hx hb dX8_keep_27 rfl (lv_at hl 2 rfl) ?_
          refine lv_iadd hx hb dX8_keep_28 ?_
          refine lv_aload_n hx hb dX8_keep_29 rfl (lv_at hl 0 rfl) ?_
          refine va_get (D := (dC, dI)) (ci := 8) (v := .ref (a 4)) (C := RX8) (T := TX8) (N := 19) hx hb hts inX8_keep_X8 hown hK hP 0 (eM_0 a cy I A_13 T) rfl 5 (by decide) (hts _ mX8_keep_1) (fun _ h9 => h9) rfl dX8_keep_30 ?_
          refine lv_iload_n hx hb dX8_keep_33 rfl (lv_at hl 2 rfl) ?_
          obtain ⟨i5, h⟩ := inb_some h
          refine g_iald (f := (A_13 3)) (j := x2.toNatClampNeg) hx hb hK hP 4 (eM_4 a cy I A_13 T) i5 rfl dX8_keep_34 ?_
          obtain ⟨i6, h⟩ := inb_some h
          refine g_iast (f := (A_13 5)) (j := (((15 * x1) + x2)).toNatClampNeg) hx hb hK hP hD hS 6 (eM_6 a cy I A_13 T) i6 rfl dX8_keep_35 (sM_6 a cy I A_13 T (upd (A_13 5) (((15 * x1) + x2)).toNatClampNeg ((A_13 3) x2.toNatClampNeg))) (fun H locs hP hD hS => ?_)
          refine lv_iinc (v := (x2 + 1)) (lv' := [(2, .int (x2 + 1)), (0, .ref (a 0)), (1, .int x1)]) hx hb dX8_keep_36 hl (k := 2) rfl rfl (by decide) rfl (fun ls hl => ?_)
          refine lv_goto (tgt := 13) hx hb dX8_keep_39 (by decide) ?_
          exact ih13 _ _ h _ _ hP hD hS _ (lv_sub hl [1, 2, 0] rfl)
    refine lp13 _ _ ?_ N _ _ h _ _ hP hD hS _ (lv_sub hl [1, 2, 0] rfl)
    intro x2 A_13 h H locs hP hD hS ls hl
    refine lv_aload_n hx hb dX8_keep_42 rfl (lv_at hl 0 rfl) ?_
    refine va_get (D := (dC, dI)) (ci := 8) (v := .ref (a 7)) (C := RX8) (T := TX8) (N := 19) hx hb hts inX8_keep_X8 hown hK hP 0 (eM_0 a cy I A_13 T) rfl 9 (by decide) (hts _ mX8_keep_0) (fun _ h9 => h9) rfl dX8_keep_43 ?_
    refine lv_iload_n hx hb dX8_keep_46 rfl (lv_at hl 1 rfl) ?_
    refine lv_iconst (v := 1) hx hb dX8_keep_47 (by decide) ?_
    obtain ⟨i3, h⟩ := inb_some h
    refine g_zast (f := (A_13 6)) (j := p1.toNatClampNeg) hx hb hK hP hD hS 7 (eM_7 a cy I A_13 T) i3 rfl dX8_keep_48 (sM_7 a cy I A_13 T (upd (A_13 6) p1.toNatClampNeg (vp_nar .boolean 1))) (fun H locs hP hD hS => ?_)
    refine lv_aload_n hx hb dX8_keep_49 rfl (lv_at hl 0 rfl) ?_
    refine va_get (D := (dC, dI)) (ci := 8) (v := .ref (a 4)) (C := RX8) (T := TX8) (N := 19) hx hb hts inX8_keep_X8 hown hK hP 0 (eM_0 a cy I (va_up A_13 6 (upd (A_13 6) p1.toNatClampNeg (vp_nar .boolean 1))) T) rfl 5 (by decide) (hts _ mX8_keep_1) (fun _ h9 => h9) rfl dX8_keep_50 ?_
    refine lv_iconst (v := 0) hx hb dX8_keep_53 (by decide) ?_
    refine g_iald (f := (A_13 3)) (j := 0) hx hb hK hP 4 (eM_4 a cy I (va_up A_13 6 (upd (A_13 6) p1.toNatClampNeg (vp_nar .boolean 1))) T) (lit_in (by decide) : vp_in 0 15) rfl dX8_keep_54 ?_
    obtain rfl := Option.some.inj h
    exact g_iret hx hb hr hK hP hD hS hQ dX8_keep_55
  · replace h := ite_t h c2
    refine lv_iconst (v := (-1)) hx hb dX8_keep_9 (by decide) ?_
    obtain rfl := Option.some.inj h
    exact g_iret hx hb hr hK hP hD hS hQ dX8_keep_10
