theorem inX8_morning_X8 : ∀ w ∈ u_ws RX8 TX8 19, w ∈ wsX8_morning := by decide +kernel
theorem mX8_morning_0 : Cond.fieldLink RX8 13 "WarmBottlesModel" "told" "[I" ∈ wsX8_morning := List.mem_of_getElem? (i := 1) rfl
def rm_X8_morning_M : Room := { frames := 7, cells := 0, slots := 0, locals := 330 }
def f_X8_morning_M_L41 (N : Nat) (k_41 : Int32 → Int32 → Option (Int32)) (x1 : Int32) (I : (Nat → Int32)) (A : (Nat → Nat → Int32)) : Nat → Int32 → Int32 → Option (Int32)
  | 0, _, _ => none
  | n_41 + 1, x3, x4 => (if ((A 1) 0) ≤ x4 then (k_41 x3 x4) else (Option.bind (f_X8_pints_M N I A x1 x4) (fun r6 => (if r6 = (-9) then (f_X8_morning_M_L41 N k_41 x1 I A n_41 (-9) (x4 + 1)) else (if x3 = (-9) then (f_X8_morning_M_L41 N k_41 x1 I A n_41 (-9) (x4 + 1)) else (f_X8_morning_M_L41 N k_41 x1 I A n_41 (x3 + r6) (x4 + 1)))))))
def f_X8_morning_M (N : Nat) (I : Nat → Int32) (A : Nat → Nat → Int32) (p1 : Int32) (p2 : Int32) : Option (Int32) := (Option.bind (f_X8_in_M N I A p1 1 40) (fun r1 => (if r1 = 0 then some (-1) else (if p2 = (-1) then (if p2 < 0 then (f_X8_morning_M_L41 N (fun (x3 : Int32) (x4 : Int32) => some x3) p1 I A N 0 0) else (Option.bind (f_X8_pints_M N I A p1 p2) (fun r9 => some r9))) else (Option.bind (f_X8_isBottle_M N I A p2) (fun r10 => (if r10 = 0 then some (-1) else (if p2 < 0 then (f_X8_morning_M_L41 N (fun (x3 : Int32) (x4 : Int32) => some x3) p1 I A N 0 0) else (Option.bind (f_X8_pints_M N I A p1 p2) (fun r17 => some r17))))))))))
set_option maxHeartbeats 4000000 in
set_option maxRecDepth 100000 in
theorem c_X8_morning_M (l : Launch) (dC : Nat → ClassId) (dI : Nat → Nat → Nat) (a : Nat → Nat) (cy : Nat → ClassId) (N : Nat) (I : Nat → Int32) (A : Nat → Nat → Int32) (T : Int64) (p1 : Int32) (p2 : Int32) (res : Int32) (h : f_X8_morning_M N I A p1 p2 = some res) (sz : Nat) : Met l yX8_morning wsX8_morning rm_X8_morning_M (g_Pre (dC, dI) cy [.ref (a 0), .int p1, .int p2] (wM a cy I A T) sz) (g_Qi (dC, dI) cy res (wM a cy I A T) (wM a cy I A T) sz) 0 0 (va_A (wM a cy I A T) sz) := by
  unfold f_X8_morning_M at h
  refine g_entry _ _ _ _ _ _ (cc := cX8_morning) (maxL := 6) (ret := (some .int)) (by decide) rfl (Nat.le_of_ble_eq_true rfl) ?_
  intro p e s m args below meth c ls hx hb hml hown hts hr hlocks hA hK hP hD hS hl Q hQ
  have hl : lv_has ls 6 [(0, .ref (a 0)), (1, .int p1), (2, .int p2)] := hl
  have hown : s.vm.findClass RX8 = some m.cls := hown
  refine lv_iload_n hx hb dX8_morning_0 rfl (lv_at hl 1 rfl) ?_
  refine lv_iconst (v := 1) hx hb dX8_morning_1 (by decide) ?_
  refine lv_bipush (v := 40) hx hb dX8_morning_2 (by decide) ?_
  obtain ⟨r1, hr1, h⟩ := bnd_some h
  refine g_callSi (As := [.int p1, .int 1, .int 40]) (rest := []) hx hb hml hown hts (c_X8_in_M l dC dI a cy N I A T p1 1 40 r1 hr1) (va_cwS 3 hts gX8_morning_X8_in rfl rfl rfl (by decide +kernel) ⟨Nat.le_of_ble_eq_true rfl, Nat.le_of_ble_eq_true rfl⟩) hK hP hD hS hA rfl hl.1 rfl (Nat.le_of_ble_eq_true rfl) dX8_morning_4 (fun H locs hP hD hS => ?_)
  refine lv_if_eq (tgt := 23) hx hb dX8_morning_7 (by decide) (fun c2 => ?_) (fun c2 => ?_)
  · replace h := ite_t h c2
    refine lv_iconst (v := (-1)) hx hb dX8_morning_23 (by decide) ?_
    obtain rfl := Option.some.inj h
    exact g_iret hx hb hr hK hP hD hS hQ dX8_morning_24
  · replace h := ite_f h c2
    refine lv_iload_n hx hb dX8_morning_10 rfl (lv_at hl 2 rfl) ?_
    refine lv_iconst (v := (-1)) hx hb dX8_morning_11 (by decide) ?_
    refine lv_icmp_eq (tgt := 25) hx hb dX8_morning_12 (by decide) (fun c3 => ?_) (fun c3 => ?_)
    · replace h := ite_t h c3
      refine lv_iload_n hx hb dX8_morning_25 rfl (lv_at hl 2 rfl) ?_
      refine lv_if_lt (tgt := 36) hx hb dX8_morning_26 (by decide) (fun c4 => ?_) (fun c4 => ?_)
      · replace h := ite_t h c4
        refine lv_iconst (v := 0) hx hb dX8_morning_36 (by decide) ?_
        refine lv_istore_n (lv' := [(3, .int 0), (0, .ref (a 0)), (1, .int p1), (2, .int p2)]) hx hb dX8_morning_37 rfl hl (by decide) rfl (fun ls hl => ?_)
        refine lv_iconst (v := 0) hx hb dX8_morning_38 (by decide) ?_
        refine lv_istore (lv' := [(4, .int 0), (3, .int 0), (0, .ref (a 0)), (1, .int p1), (2, .int p2)]) hx hb dX8_morning_39 hl (by decide) rfl (fun ls hl => ?_)
        have lp41 : ∀ (x1 : Int32) (k_41 : Int32 → Int32 → Option (Int32)), (∀ (x3 : Int32) (x4 : Int32), k_41 x3 x4 = some res → g_At (dC, dI) p l e (headSpec wsX8_morning rm_X8_morning_M).room s m args below meth c Q (wM a cy I A T) sz 6 (wM a cy I A T) [(3, .int x3)] 90 []) → ∀ (n_41 : Nat) (x3 : Int32) (x4 : Int32), f_X8_morning_M_L41 N k_41 x1 I A n_41 x3 x4 = some res → g_At (dC, dI) p l e (headSpec wsX8_morning rm_X8_morning_M).room s m args below meth c Q (wM a cy I A T) sz 6 (wM a cy I A T) [(0, .ref (a 0)), (1, .int x1), (3, .int x3), (4, .int x4)] 41 [] := by
          intro x1 k_41 hk_41 n_41
          induction n_41 with
          | zero =>
            intro x3 x4 h
            exact absurd h (by rw [f_X8_morning_M_L41]; exact fun q => by cases q)
          | succ n_41 ih41 =>
            intro x3 x4 h H locs hP hD hS ls hl
            rw [f_X8_morning_M_L41] at h
            refine lv_iload hx hb dX8_morning_41 (lv_at hl 3 rfl) ?_
            refine lv_aload_n hx hb dX8_morning_43 rfl (lv_at hl 0 rfl) ?_
            refine va_get (D := (dC, dI)) (ci := 8) (v := .ref (a 2)) (C := RX8) (T := TX8) (N := 19) hx hb hts inX8_morning_X8 hown hK hP 0 (eM_0 a cy I A T) rfl 3 (by decide) (hts _ mX8_morning_0) (fun _ h9 => h9) rfl dX8_morning_44 ?_
            refine lv_iconst (v := 0) hx hb dX8_morning_47 (by decide) ?_
            refine g_iald (f := (A 1)) (j := 0) hx hb hK hP 2 (eM_2 a cy I A T) (lit_in (by decide) : vp_in 0 23) rfl dX8_morning_48 ?_
            refine lv_icmp_ge (tgt := 90) hx hb dX8_morning_49 (by decide) (fun c5 => ?_) (fun c5 => ?_)
            · replace h := ite_t h c5
              exact hk_41 _ _ h _ _ hP hD hS _ (lv_sub hl [2] rfl)
            · replace h := ite_f h c5
              refine lv_aload_n hx hb dX8_morning_52 rfl (lv_at hl 0 rfl) ?_
              refine lv_iload_n hx hb dX8_morning_53 rfl (lv_at hl 1 rfl) ?_
              refine lv_iload hx hb dX8_morning_54 (lv_at hl 3 rfl) ?_
              obtain ⟨r6, hr6, h⟩ := bnd_some h
              refine g_callVi (As := [.int x1, .int x4]) (rest := []) (ci := 8) (q0 := 0) hx hb hml hown hts (c_X8_pints_M l dC dI a cy N I A T x1 x4 r6 hr6) (cwV 2 hts gX8_morning_X8_pints rfl rfl rfl (by decide +kernel) ⟨Nat.le_of_ble_eq_true rfl, Nat.le_of_ble_eq_true rfl⟩) hK hP hD hS hA rfl (eM_0 a cy I A T) rfl rfl hl.1 rfl (Nat.le_of_ble_eq_true rfl) dX8_morning_56 (fun H locs hP hD hS => ?_)
              refine lv_istore (lv' := [(5, .int r6), (0, .ref (a 0)), (1, .int x1), (3, .int x3), (4, .int x4)]) hx hb dX8_morning_59 hl (by decide) rfl (fun ls hl => ?_)
              refine lv_iload hx hb dX8_morning_61 (lv_at hl 0 rfl) ?_
              refine lv_bipush (v := (-9)) hx hb dX8_morning_63 (by decide) ?_
              refine lv_icmp_eq (tgt := 74) hx hb dX8_morning_65 (by decide) (fun c7 => ?_) (fun c7 => ?_)
              · replace h := ite_t h c7
                refine lv_bipush (v := (-9)) hx hb dX8_morning_74 (by decide) ?_
                refine lv_goto (tgt := 83) hx hb dX8_morning_76 (by decide) ?_
                refine lv_istore_n (lv' := [(3, .int (-9)), (5, .int r6), (0, .ref (a 0)), (1, .int x1), (4, .int x4)]) hx hb dX8_morning_83 rfl hl (by decide) rfl (fun ls hl => ?_)
                refine lv_iinc (v := (x4 + 1)) (lv' := [(4, .int (x4 + 1)), (3, .int (-9)), (5, .int r6), (0, .ref (a 0)), (1, .int x1)]) hx hb dX8_morning_84 hl (k := 4) rfl rfl (by decide) rfl (fun ls hl => ?_)
                refine lv_goto (tgt := 41) hx hb dX8_morning_87 (by decide) ?_
                exact ih41 _ _ h _ _ hP hD hS _ (lv_sub hl [3, 4, 1, 0] rfl)
              · replace h := ite_f h c7
                refine lv_iload_n hx hb dX8_morning_68 rfl (lv_at hl 3 rfl) ?_
                refine lv_bipush (v := (-9)) hx hb dX8_morning_69 (by decide) ?_
                refine lv_icmp_ne (tgt := 79) hx hb dX8_morning_71 (by decide) (fun c8 => ?_) (fun c8 => ?_)
                · replace h := ite_f h c8
                  refine lv_iload_n hx hb dX8_morning_79 rfl (lv_at hl 3 rfl) ?_
                  refine lv_iload hx hb dX8_morning_80 (lv_at hl 0 rfl) ?_
                  refine lv_iadd hx hb dX8_morning_82 ?_
                  refine lv_istore_n (lv' := [(3, .int (x3 + r6)), (5, .int r6), (0, .ref (a 0)), (1, .int x1), (4, .int x4)]) hx hb dX8_morning_83 rfl hl (by decide) rfl (fun ls hl => ?_)
                  refine lv_iinc (v := (x4 + 1)) (lv' := [(4, .int (x4 + 1)), (3, .int (x3 + r6)), (5, .int r6), (0, .ref (a 0)), (1, .int x1)]) hx hb dX8_morning_84 hl (k := 4) rfl rfl (by decide) rfl (fun ls hl => ?_)
                  refine lv_goto (tgt := 41) hx hb dX8_morning_87 (by decide) ?_
                  exact ih41 _ _ h _ _ hP hD hS _ (lv_sub hl [3, 4, 1, 0] rfl)
                · replace h := ite_t h c8
                  refine lv_bipush (v := (-9)) hx hb dX8_morning_74 (by decide) ?_
                  refine lv_goto (tgt := 83) hx hb dX8_morning_76 (by decide) ?_
                  refine lv_istore_n (lv' := [(3, .int (-9)), (5, .int r6), (0, .ref (a 0)), (1, .int x1), (4, .int x4)]) hx hb dX8_morning_83 rfl hl (by decide) rfl (fun ls hl => ?_)
                  refine lv_iinc (v := (x4 + 1)) (lv' := [(4, .int (x4 + 1)), (3, .int (-9)), (5, .int r6), (0, .ref (a 0)), (1, .int x1)]) hx hb dX8_morning_84 hl (k := 4) rfl rfl (by decide) rfl (fun ls hl => ?_)
                  refine lv_goto (tgt := 41) hx hb dX8_morning_87 (by decide) ?_
                  exact ih41 _ _ h _ _ hP hD hS _ (lv_sub hl [3, 4, 1, 0] rfl)
        refine lp41 _ _ ?_ N _ _ h _ _ hP hD hS _ (lv_sub hl [2, 3, 1, 0] rfl)
        intro x3 x4 h H locs hP hD hS ls hl
        refine lv_iload_n hx hb dX8_morning_90 rfl (lv_at hl 0 rfl) ?_
        obtain rfl := Option.some.inj h
        exact g_iret hx hb hr hK hP hD hS hQ dX8_morning_91
      · replace h := ite_f h c4
        refine lv_aload_n hx hb dX8_morning_29 rfl (lv_at hl 0 rfl) ?_
        refine lv_iload_n hx hb dX8_morning_30 rfl (lv_at hl 1 rfl) ?_
        refine lv_iload_n hx hb dX8_morning_31 rfl (lv_at hl 2 rfl) ?_
        obtain ⟨r9, hr9, h⟩ := bnd_some h
        refine g_callVi (As := [.int p1, .int p2]) (rest := []) (ci := 8) (q0 := 0) hx hb hml hown hts (c_X8_pints_M l dC dI a cy N I A T p1 p2 r9 hr9) (cwV 2 hts gX8_morning_X8_pints rfl rfl rfl (by decide +kernel) ⟨Nat.le_of_ble_eq_true rfl, Nat.le_of_ble_eq_true rfl⟩) hK hP hD hS hA rfl (eM_0 a cy I A T) rfl rfl hl.1 rfl (Nat.le_of_ble_eq_true rfl) dX8_morning_32 (fun H locs hP hD hS => ?_)
        obtain rfl := Option.some.inj h
        exact g_iret hx hb hr hK hP hD hS hQ dX8_morning_35
    · replace h := ite_f h c3
      refine lv_aload_n hx hb dX8_morning_15 rfl (lv_at hl 0 rfl) ?_
      refine lv_iload_n hx hb dX8_morning_16 rfl (lv_at hl 2 rfl) ?_
      obtain ⟨r10, hr10, h⟩ := bnd_some h
      refine g_callVi (As := [.int p2]) (rest := []) (ci := 8) (q0 := 0) hx hb hml hown hts (c_X8_isBottle_M l dC dI a cy N I A T p2 r10 hr10) (cwV 1 hts gX8_morning_X8_isBottle rfl rfl rfl (by decide +kernel) ⟨Nat.le_of_ble_eq_true rfl, Nat.le_of_ble_eq_true rfl⟩) hK hP hD hS hA rfl (eM_0 a cy I A T) rfl rfl hl.1 rfl (Nat.le_of_ble_eq_true rfl) dX8_morning_17 (fun H locs hP hD hS => ?_)
      refine lv_if_ne (tgt := 25) hx hb dX8_morning_20 (by decide) (fun c11 => ?_) (fun c11 => ?_)
      · replace h := ite_f h c11
        refine lv_iload_n hx hb dX8_morning_25 rfl (lv_at hl 2 rfl) ?_
        refine lv_if_lt (tgt := 36) hx hb dX8_morning_26 (by decide) (fun c12 => ?_) (fun c12 => ?_)
        · replace h := ite_t h c12
          refine lv_iconst (v := 0) hx hb dX8_morning_36 (by decide) ?_
          refine lv_istore_n (lv' := [(3, .int 0), (0, .ref (a 0)), (1, .int p1), (2, .int p2)]) hx hb dX8_morning_37 rfl hl (by decide) rfl (fun ls hl => ?_)
          refine lv_iconst (v := 0) hx hb dX8_morning_38 (by decide) ?_
          refine lv_istore (lv' := [(4, .int 0), (3, .int 0), (0, .ref (a 0)), (1, .int p1), (2, .int p2)]) hx hb dX8_morning_39 hl (by decide) rfl (fun ls hl => ?_)
          have lp41 : ∀ (x1 : Int32) (k_41 : Int32 → Int32 → Option (Int32)), (∀ (x3 : Int32) (x4 : Int32), k_41 x3 x4 = some res → g_At (dC, dI) p l e (headSpec wsX8_morning rm_X8_morning_M).room s m args below meth c Q (wM a cy I A T) sz 6 (wM a cy I A T) [(3, .int x3)] 90 []) → ∀ (n_41 : Nat) (x3 : Int32) (x4 : Int32), f_X8_morning_M_L41 N k_41 x1 I A n_41 x3 x4 = some res → g_At (dC, dI) p l e (headSpec wsX8_morning rm_X8_morning_M).room s m args below meth c Q (wM a cy I A T) sz 6 (wM a cy I A T) [(0, .ref (a 0)), (1, .int x1), (3, .int x3), (4, .int x4)] 41 [] := by
            intro x1 k_41 hk_41 n_41
            induction n_41 with
            | zero =>
              intro x3 x4 h
              exact absurd h (by rw [f_X8_morning_M_L41]; exact fun q => by cases q)
            | succ n_41 ih41 =>
              intro x3 x4 h H locs hP hD hS ls hl
              rw [f_X8_morning_M_L41] at h
              refine lv_iload hx hb dX8_morning_41 (lv_at hl 3 rfl) ?_
              refine lv_aload_n hx hb dX8_morning_43 rfl (lv_at hl 0 rfl) ?_
              refine va_get (D := (dC, dI)) (ci := 8) (v := .ref (a 2)) (C := RX8) (T := TX8) (N := 19) hx hb hts inX8_morning_X8 hown hK hP 0 (eM_0 a cy I A T) rfl 3 (by decide) (hts _ mX8_morning_0) (fun _ h9 => h9) rfl dX8_morning_44 ?_
              refine lv_iconst (v := 0) hx hb dX8_morning_47 (by decide) ?_
              refine g_iald (f := (A 1)) (j := 0) hx hb hK hP 2 (eM_2 a cy I A T) (lit_in (by decide) : vp_in 0 23) rfl dX8_morning_48 ?_
              refine lv_icmp_ge (tgt := 90) hx hb dX8_morning_49 (by decide) (fun c13 => ?_) (fun c13 => ?_)
              · replace h := ite_t h c13
                exact hk_41 _ _ h _ _ hP hD hS _ (lv_sub hl [2] rfl)
              · replace h := ite_f h c13
                refine lv_aload_n hx hb dX8_morning_52 rfl (lv_at hl 0 rfl) ?_
                refine lv_iload_n hx hb dX8_morning_53 rfl (lv_at hl 1 rfl) ?_
                refine lv_iload hx hb dX8_morning_54 (lv_at hl 3 rfl) ?_
                obtain ⟨r14, hr14, h⟩ := bnd_some h
                refine g_callVi (As := [.int x1, .int x4]) (rest := []) (ci := 8) (q0 := 0) hx hb hml hown hts (c_X8_pints_M l dC dI a cy N I A T x1 x4 r14 hr14) (cwV 2 hts gX8_morning_X8_pints rfl rfl rfl (by decide +kernel) ⟨Nat.le_of_ble_eq_true rfl, Nat.le_of_ble_eq_true rfl⟩) hK hP hD hS hA rfl (eM_0 a cy I A T) rfl rfl hl.1 rfl (Nat.le_of_ble_eq_true rfl) dX8_morning_56 (fun H locs hP hD hS => ?_)
                refine lv_istore (lv' := [(5, .int r14), (0, .ref (a 0)), (1, .int x1), (3, .int x3), (4, .int x4)]) hx hb dX8_morning_59 hl (by decide) rfl (fun ls hl => ?_)
                refine lv_iload hx hb dX8_morning_61 (lv_at hl 0 rfl) ?_
                refine lv_bipush (v := (-9)) hx hb dX8_morning_63 (by decide) ?_
                refine lv_icmp_eq (tgt := 74) hx hb dX8_morning_65 (by decide) (fun c15 => ?_) (fun c15 => ?_)
                · replace h := ite_t h c15
                  refine lv_bipush (v := (-9)) hx hb dX8_morning_74 (by decide) ?_
                  refine lv_goto (tgt := 83) hx hb dX8_morning_76 (by decide) ?_
                  refine lv_istore_n (lv' := [(3, .int (-9)), (5, .int r14), (0, .ref (a 0)), (1, .int x1), (4, .int x4)]) hx hb dX8_morning_83 rfl hl (by decide) rfl (fun ls hl => ?_)
                  refine lv_iinc (v := (x4 + 1)) (lv' := [(4, .int (x4 + 1)), (3, .int (-9)), (5, .int r14), (0, .ref (a 0)), (1, .int x1)]) hx hb dX8_morning_84 hl (k := 4) rfl rfl (by decide) rfl (fun ls hl => ?_)
                  refine lv_goto (tgt := 41) hx hb dX8_morning_87 (by decide) ?_
                  exact ih41 _ _ h _ _ hP hD hS _ (lv_sub hl [3, 4, 1, 0] rfl)
                · replace h := ite_f h c15
                  refine lv_iload_n hx hb dX8_morning_68 rfl (lv_at hl 3 rfl) ?_
                  refine lv_bipush (v := (-9)) hx hb dX8_morning_69 (by decide) ?_
                  refine lv_icmp_ne (tgt := 79) hx hb dX8_morning_71 (by decide) (fun c16 => ?_) (fun c16 => ?_)
                  · replace h := ite_f h c16
                    refine lv_iload_n hx hb dX8_morning_79 rfl (lv_at hl 3 rfl) ?_
                    refine lv_iload hx hb dX8_morning_80 (lv_at hl 0 rfl) ?_
                    refine lv_iadd hx hb dX8_morning_82 ?_
                    refine lv_istore_n (lv' := [(3, .int (x3 + r14)), (5, .int r14), (0, .ref (a 0)), (1, .int x1), (4, .int x4)]) hx hb dX8_morning_83 rfl hl (by decide) rfl (fun ls hl => ?_)
                    refine lv_iinc (v := (x4 + 1)) (lv' := [(4, .int (x4 + 1)), (3, .int (x3 + r14)), (5, .int r14), (0, .ref (a 0)), (1, .int x1)]) hx hb dX8_morning_84 hl (k := 4) rfl rfl (by decide) rfl (fun ls hl => ?_)
                    refine lv_goto (tgt := 41) hx hb dX8_morning_87 (by decide) ?_
                    exact ih41 _ _ h _ _ hP hD hS _ (lv_sub hl [3, 4, 1, 0] rfl)
                  · replace h := ite_t h c16
                    refine lv_bipush (v := (-9)) hx hb dX8_morning_74 (by decide) ?_
                    refine lv_goto (tgt := 83) hx hb dX8_morning_76 (by decide) ?_
                    refine lv_istore_n (lv' := [(3, .int (-9)), (5, .int r14), (0, .ref (a 0)), (1, .int x1), (4, .int x4)]) hx hb dX8_morning_83 rfl hl (by decide) rfl (fun ls hl => ?_)
                    refine lv_iinc (v := (x4 + 1)) (lv' := [(4, .int (x4 + 1)), (3, .int (-9)), (5, .int r14), (0, .ref (a 0)), (1, .int x1)]) hx hb dX8_morning_84 hl (k := 4) rfl rfl (by decide) rfl (fun ls hl => ?_)
                    refine lv_goto (tgt := 41) hx hb dX8_morning_87 (by decide) ?_
                    exact ih41 _ _ h _ _ hP hD hS _ (lv_sub hl [3, 4, 1, 0] rfl)
          refine lp41 _ _ ?_ N _ _ h _ _ hP hD hS _ (lv_sub hl [2, 3, 1, 0] rfl)
          intro x3 x4 h H locs hP hD hS ls hl
          refine lv_iload_n hx hb dX8_morning_90 rfl (lv_at hl 0 rfl) ?_
          obtain rfl := Option.some.inj h
          exact g_iret hx hb hr hK hP hD hS hQ dX8_morning_91
        · replace h := ite_f h c12
          refine lv_aload_n hx hb dX8_morning_29 rfl (lv_at hl 0 rfl) ?_
          refine lv_iload_n hx hb dX8_morning_30 rfl (lv_at hl 1 rfl) ?_
          refine lv_iload_n hx hb dX8_morning_31 rfl (lv_at hl 2 rfl) ?_
          obtain ⟨r17, hr17, h⟩ := bnd_some h
          refine g_callVi (As := [.int p1, .int p2]) (rest := []) (ci := 8) (q0 := 0) hx hb hml hown hts (c_X8_pints_M l dC dI a cy N I A T p1 p2 r17 hr17) (cwV 2 hts gX8_morning_X8_pints rfl rfl rfl (by decide +kernel) ⟨Nat.le_of_ble_eq_true rfl, Nat.le_of_ble_eq_true rfl⟩) hK hP hD hS hA rfl (eM_0 a cy I A T) rfl rfl hl.1 rfl (Nat.le_of_ble_eq_true rfl) dX8_morning_32 (fun H locs hP hD hS => ?_)
          obtain rfl := Option.some.inj h
          exact g_iret hx hb hr hK hP hD hS hQ dX8_morning_35
      · replace h := ite_t h c11
        refine lv_iconst (v := (-1)) hx hb dX8_morning_23 (by decide) ?_
        obtain rfl := Option.some.inj h
        exact g_iret hx hb hr hK hP hD hS hQ dX8_morning_24
theorem inX8_holds_X8 : ∀ w ∈ u_ws RX8 TX8 19, w ∈ wsX8_holds := by decide +kernel
theorem mX8_holds_0 : Cond.fieldLink RX8 35 "WarmBottlesModel" "aside" "[I" ∈ wsX8_holds := List.mem_of_getElem? (i := 1) rfl
theorem mX8_holds_1 : Cond.fieldLink RX8 19 "WarmBottlesModel" "s" "[I" ∈ wsX8_holds := List.mem_of_getElem? (i := 2) rfl
def rm_X8_holds_M : Room := { frames := 3, cells := 0, slots := 0, locals := 210 }
def f_X8_holds_M_L2 (N : Nat) (k_2 : Int32 → (Nat → Nat → Int32) → Option ((Nat → Nat → Int32))) (I : (Nat → Int32)) : Nat → Int32 → (Nat → Nat → Int32) → Option ((Nat → Nat → Int32))
  | 0, _, _ => none
  | n_2 + 1, x1, A_2 => (if 15 ≤ x1 then (k_2 x1 A_2) else (if x1 < 0 ∨ 15 ≤ x1.toNatClampNeg then none else (f_X8_holds_M_L2 N k_2 I n_2 (x1 + 1) (va_up A_2 8 (upd (A_2 8) x1.toNatClampNeg ((A_2 3) x1.toNatClampNeg))))))
def f_X8_holds_M (N : Nat) (I : Nat → Int32) (A : Nat → Nat → Int32)  : Option ((Nat → Nat → Int32)) := (f_X8_holds_M_L2 N (fun (x1 : Int32) (A_2 : (Nat → Nat → Int32)) => some A_2) I N 0 A)
set_option maxHeartbeats 4000000 in
set_option maxRecDepth 100000 in
theorem c_X8_holds_M (l : Launch) (dC : Nat → ClassId) (dI : Nat → Nat → Nat) (a : Nat → Nat) (cy : Nat → ClassId) (N : Nat) (I : Nat → Int32) (A : Nat → Nat → Int32) (T : Int64)  (res : (Nat → Nat → Int32)) (h : f_X8_holds_M N I A  = some res) (sz : Nat) : Met l yX8_holds wsX8_holds rm_X8_holds_M (g_Pre (dC, dI) cy [.ref (a 0)] (wM a cy I A T) sz) (g_Qv (dC, dI) cy (wM a cy I A T) (wM a cy I res T) sz) 0 0 (va_A (wM a cy I A T) sz) := by
  unfold f_X8_holds_M at h
  refine g_entry _ _ _ _ _ _ (cc := cX8_holds) (maxL := 2) (ret := none) (by decide) rfl (Nat.le_of_ble_eq_true rfl) ?_
  intro p e s m args below meth c ls hx hb hml hown hts hr hlocks hA hK hP hD hS hl Q hQ
  have hl : lv_has ls 2 [(0, .ref (a 0))] := hl
  have hown : s.vm.findClass RX8 = some m.cls := hown
  refine lv_iconst (v := 0) hx hb dX8_holds_0 (by decide) ?_
  refine lv_istore_n (lv' := [(1, .int 0), (0, .ref (a 0))]) hx hb dX8_holds_1 rfl hl (by decide) rfl (fun ls hl => ?_)
  have lp2 : ∀  (k_2 : Int32 → (Nat → Nat → Int32) → Option ((Nat → Nat → Int32))), (∀ (x1 : Int32) (A_2 : (Nat → Nat → Int32)), k_2 x1 A_2 = some res → g_At (dC, dI) p l e (headSpec wsX8_holds rm_X8_holds_M).room s m args below meth c Q (wM a cy I A T) sz 2 (wM a cy I A_2 T) [] 26 []) → ∀ (n_2 : Nat) (x1 : Int32) (A_2 : (Nat → Nat → Int32)), f_X8_holds_M_L2 N k_2 I n_2 x1 A_2 = some res → g_At (dC, dI) p l e (headSpec wsX8_holds rm_X8_holds_M).room s m args below meth c Q (wM a cy I A T) sz 2 (wM a cy I A_2 T) [(0, .ref (a 0)), (1, .int x1)] 2 [] := by
    intro  k_2 hk_2 n_2
    induction n_2 with
    | zero =>
      intro x1 A_2 h
      exact absurd h (by rw [f_X8_holds_M_L2]; exact fun q => by cases q)
    | succ n_2 ih2 =>
      intro x1 A_2 h H locs hP hD hS ls hl
      rw [f_X8_holds_M_L2] at h
      refine lv_iload_n hx hb dX8_holds_2 rfl (lv_at hl 1 rfl) ?_
      refine lv_bipush (v := 15) hx hb dX8_holds_3 (by decide) ?_
      refine lv_icmp_ge (tgt := 26) hx hb dX8_holds_5 (by decide) (fun c1 => ?_) (fun c1 => ?_)
      · replace h := ite_t h c1
        exact hk_2 _ _ h _ _ hP hD hS _ (lv_sub hl [] rfl)
      · replace h := ite_f h c1
        refine lv_aload_n hx hb dX8_holds_8 rfl (lv_at hl 0 rfl) ?_
        refine va_get (D := (dC, dI)) (ci := 8) (v := .ref (a 9)) (C := RX8) (T := TX8) (N := 19) hx hb hts inX8_holds_X8 hown hK hP 0 (eM_0 a cy I A_2 T) rfl 16 (by decide) (hts _ mX8_holds_0) (fun _ h9 => h9) rfl dX8_holds_9 ?_
        refine lv_iload_n hx hb dX8_holds_12 rfl (lv_at hl 1 rfl) ?_
        refine lv_aload_n hx hb dX8_holds_13 rfl (lv_at hl 0 rfl) ?_
        refine va_get (D := (dC, dI)) (ci := 8) (v := .ref (a 4)) (C := RX8) (T := TX8) (N := 19) hx hb hts inX8_holds_X8 hown hK hP 0 (eM_0 a cy I A_2 T) rfl 5 (by decide) (hts _ mX8_holds_1) (fun _ h9 => h9) rfl dX8_holds_14 ?_
        refine lv_iload_n hx hb dX8_holds_17 rfl (lv_at hl 1 rfl) ?_
        obtain ⟨i2, h⟩ := inb_some h
        refine g_iald (f := (A_2 3)) (j := x1.toNatClampNeg) hx hb hK hP 4 (eM_4 a cy I A_2 T) i2 rfl dX8_holds_18 ?_
        refine g_iast (f := (A_2 8)) (j := x1.toNatClampNeg) hx hb hK hP hD hS 9 (eM_9 a cy I A_2 T) i2 rfl dX8_holds_19 (sM_9 a cy I A_2 T (upd (A_2 8) x1.toNatClampNeg ((A_2 3) x1.toNatClampNeg))) (fun H locs hP hD hS => ?_)
        refine lv_iinc (v := (x1 + 1)) (lv' := [(1, .int (x1 + 1)), (0, .ref (a 0))]) hx hb dX8_holds_20 hl (k := 1) rfl rfl (by decide) rfl (fun ls hl => ?_)
        refine lv_goto (tgt := 2) hx hb dX8_holds_23 (by decide) ?_
        exact ih2 _ _ h _ _ hP hD hS _ (lv_sub hl [1, 0] rfl)
  refine lp2  _ ?_ N _ _ h _ _ hP hD hS _ (lv_sub hl [1, 0] rfl)
  intro x1 A_2 h H locs hP hD hS ls hl
  obtain rfl := Option.some.inj h
  exact g_vret hx hb hr hK hP hD hS hQ dX8_holds_26
theorem inX8_keptBy_X8 : ∀ w ∈ u_ws RX8 TX8 19, w ∈ wsX8_keptBy := by decide +kernel
theorem mX8_keptBy_0 : Cond.fieldLink RX8 13 "WarmBottlesModel" "told" "[I" ∈ wsX8_keptBy := List.mem_of_getElem? (i := 1) rfl
theorem mX8_keptBy_1 : Cond.fieldLink RX8 19 "WarmBottlesModel" "s" "[I" ∈ wsX8_keptBy := List.mem_of_getElem? (i := 2) rfl
def rm_X8_keptBy_M : Room := { frames := 7, cells := 0, slots := 0, locals := 330 }
def f_X8_keptBy_M_L4 (N : Nat) (k_4 : Int32 → Int32 → (Nat → Nat → Int32) → Option (Int32 × (Nat → Nat → Int32))) (I : (Nat → Int32)) : Nat → Int32 → Int32 → (Nat → Nat → Int32) → Option (Int32 × (Nat → Nat → Int32))
  | 0, _, _, _ => none
  | n_4 + 1, x2, x3, A_4 => (if 4 ≤ x3 then (k_4 x2 x3 A_4) else (if 6 ≤ (x2 - x2 / 7 * 7) then (Option.bind (f_X8_passes_M N I A_4) (fun r3 => (Option.bind (f_X8_manyWarm_M N I r3) (fun r4 => (if ((r3 1) 0) ≤ r4 then (f_X8_keptBy_M_L4 N k_4 I n_4 (x2 / 7) (x3 + 1) r3) else some (x3, r3)))))) else (if ((A_4 1) 0) ≤ (x2 - x2 / 7 * 7) then some ((-1), A_4) else (if ((A_4 3) 2) = 0 then some ((-1), A_4) else (Option.bind (f_X8_filled_M N I A_4 (x2 - x2 / 7 * 7) 1) (fun r8 => (if (3 + (x2 - x2 / 7 * 7)) < 0 ∨ 15 ≤ ((3 + (x2 - x2 / 7 * 7))).toNatClampNeg then none else (Option.bind (f_X8_passes_M N I (va_up (va_up A_4 3 (upd (A_4 3) ((3 + (x2 - x2 / 7 * 7))).toNatClampNeg r8)) 3 (upd (upd (A_4 3) ((3 + (x2 - x2 / 7 * 7))).toNatClampNeg r8) 2 (((upd (A_4 3) ((3 + (x2 - x2 / 7 * 7))).toNatClampNeg r8) 2) - 1)))) (fun r10 => (Option.bind (f_X8_manyWarm_M N I r10) (fun r11 => (if ((r10 1) 0) ≤ r11 then (f_X8_keptBy_M_L4 N k_4 I n_4 (x2 / 7) (x3 + 1) r10) else some (x3, r10)))))))))))))
def f_X8_keptBy_M (N : Nat) (I : Nat → Int32) (A : Nat → Nat → Int32) (p1 : Int32) : Option (Int32 × (Nat → Nat → Int32)) := (f_X8_keptBy_M_L4 N (fun (x2 : Int32) (x3 : Int32) (A_4 : (Nat → Nat → Int32)) => some (4, A_4)) I N p1 0 A)
set_option maxHeartbeats 4000000 in
set_option maxRecDepth 100000 in
theorem c_X8_keptBy_M (l : Launch) (dC : Nat → ClassId) (dI : Nat → Nat → Nat) (a : Nat → Nat) (cy : Nat → ClassId) (N : Nat) (I : Nat → Int32) (A : Nat → Nat → Int32) (T : Int64) (p1 : Int32) (res : Int32 × (Nat → Nat → Int32)) (h : f_X8_keptBy_M N I A p1 = some res) (sz : Nat) : Met l yX8_keptBy wsX8_keptBy rm_X8_keptBy_M (g_Pre (dC, dI) cy [.ref (a 0), .int p1] (wM a cy I A T) sz) (g_Qi (dC, dI) cy res.1 (wM a cy I A T) (wM a cy I res.2 T) sz) 0 0 (va_A (wM a cy I A T) sz) := by
  unfold f_X8_keptBy_M at h
  refine g_entry _ _ _ _ _ _ (cc := cX8_keptBy) (maxL := 5) (ret := (some .int)) (by decide) rfl (Nat.le_of_ble_eq_true rfl) ?_
  intro p e s m args below meth c ls hx hb hml hown hts hr hlocks hA hK hP hD hS hl Q hQ
  have hl : lv_has ls 5 [(0, .ref (a 0)), (1, .int p1)] := hl
  have hown : s.vm.findClass RX8 = some m.cls := hown
  refine lv_iload_n hx hb dX8_keptBy_0 rfl (lv_at hl 1 rfl) ?_
  refine lv_istore_n (lv' := [(2, .int p1), (0, .ref (a 0)), (1, .int p1)]) hx hb dX8_keptBy_1 rfl hl (by decide) rfl (fun ls hl => ?_)
  refine lv_iconst (v := 0) hx hb dX8_keptBy_2 (by decide) ?_
  refine lv_istore_n (lv' := [(3, .int 0), (2, .int p1), (0, .ref (a 0)), (1, .int p1)]) hx hb dX8_keptBy_3 rfl hl (by decide) rfl (fun ls hl => ?_)
  have lp4 : ∀  (k_4 : Int32 → Int32 → (Nat → Nat → Int32) → Option (Int32 × (Nat → Nat → Int32))), (∀ (x2 : Int32) (x3 : Int32) (A_4 : (Nat → Nat → Int32)), k_4 x2 x3 A_4 = some res → g_At (dC, dI) p l e (headSpec wsX8_keptBy rm_X8_keptBy_M).room s m args below meth c Q (wM a cy I A T) sz 5 (wM a cy I A_4 T) [] 100 []) → ∀ (n_4 : Nat) (x2 : Int32) (x3 : Int32) (A_4 : (Nat → Nat → Int32)), f_X8_keptBy_M_L4 N k_4 I n_4 x2 x3 A_4 = some res → g_At (dC, dI) p l e (headSpec wsX8_keptBy rm_X8_keptBy_M).room s m args below meth c Q (wM a cy I A T) sz 5 (wM a cy I A_4 T) [(0, .ref (a 0)), (2, .int x2), (3, .int x3)] 4 [] := by
    intro  k_4 hk_4 n_4
    induction n_4 with
    | zero =>
      intro x2 x3 A_4 h
      exact absurd h (by rw [f_X8_keptBy_M_L4]; exact fun q => by cases q)
    | succ n_4 ih4 =>
      intro x2 x3 A_4 h H locs hP hD hS ls hl
      rw [f_X8_keptBy_M_L4] at h
      refine lv_iload_n hx hb dX8_keptBy_4 rfl (lv_at hl 2 rfl) ?_
      refine lv_iconst (v := 4) hx hb dX8_keptBy_5 (by decide) ?_
      refine lv_icmp_ge (tgt := 100) hx hb dX8_keptBy_6 (by decide) (fun c1 => ?_) (fun c1 => ?_)
      · replace h := ite_t h c1
        exact hk_4 _ _ _ h _ _ hP hD hS _ (lv_sub hl [] rfl)
      · replace h := ite_f h c1
        refine lv_iload_n hx hb dX8_keptBy_9 rfl (lv_at hl 1 rfl) ?_
        refine lv_bipush (v := 7) hx hb dX8_keptBy_10 (by decide) ?_
        refine lv_irem hx hb dX8_keptBy_12 (by decide) ?_
        refine lv_istore (lv' := [(4, .int (x2 - x2 / 7 * 7)), (0, .ref (a 0)), (2, .int x2), (3, .int x3)]) hx hb dX8_keptBy_13 hl (by decide) rfl (fun ls hl => ?_)
        refine lv_iload_n hx hb dX8_keptBy_15 rfl (lv_at hl 2 rfl) ?_
        refine lv_bipush (v := 7) hx hb dX8_keptBy_16 (by decide) ?_
        refine lv_idiv hx hb dX8_keptBy_18 (by decide) ?_
        refine lv_istore_n (lv' := [(2, .int (x2 / 7)), (4, .int (x2 - x2 / 7 * 7)), (0, .ref (a 0)), (3, .int x3)]) hx hb dX8_keptBy_19 rfl hl (by decide) rfl (fun ls hl => ?_)
        refine lv_iload hx hb dX8_keptBy_20 (lv_at hl 1 rfl) ?_
        refine lv_bipush (v := 6) hx hb dX8_keptBy_22 (by decide) ?_
        refine lv_icmp_ge (tgt := 75) hx hb dX8_keptBy_24 (by decide) (fun c2 => ?_) (fun c2 => ?_)
        · replace h := ite_t h c2
          refine lv_aload_n hx hb dX8_keptBy_75 rfl (lv_at hl 2 rfl) ?_
          obtain ⟨r3, hr3, h⟩ := bnd_some h
          refine g_callVv (As := []) (rest := []) (ci := 8) (q0 := 0) hx hb hml hown hts (c_X8_passes_M l dC dI a cy N I A_4 T r3 hr3) (cwV 0 hts gX8_keptBy_X8_passes rfl rfl rfl (by decide +kernel) ⟨Nat.le_of_ble_eq_true rfl, Nat.le_of_ble_eq_true rfl⟩) hK hP hD hS hA rfl (eM_0 a cy I A_4 T) rfl rfl hl.1 rfl (Nat.le_of_ble_eq_true rfl) dX8_keptBy_76 (fun H locs hP hD hS => ?_)
          refine lv_aload_n hx hb dX8_keptBy_79 rfl (lv_at hl 2 rfl) ?_
          obtain ⟨r4, hr4, h⟩ := bnd_some h
          refine g_callVi (As := []) (rest := []) (ci := 8) (q0 := 0) hx hb hml hown hts (c_X8_manyWarm_M l dC dI a cy N I r3 T r4 hr4) (cwV 0 hts gX8_keptBy_X8_manyWarm rfl rfl rfl (by decide +kernel) ⟨Nat.le_of_ble_eq_true rfl, Nat.le_of_ble_eq_true rfl⟩) hK hP hD hS hA rfl (eM_0 a cy I r3 T) rfl rfl hl.1 rfl (Nat.le_of_ble_eq_true rfl) dX8_keptBy_80 (fun H locs hP hD hS => ?_)
          refine lv_aload_n hx hb dX8_keptBy_83 rfl (lv_at hl 2 rfl) ?_
          refine va_get (D := (dC, dI)) (ci := 8) (v := .ref (a 2)) (C := RX8) (T := TX8) (N := 19) hx hb hts inX8_keptBy_X8 hown hK hP 0 (eM_0 a cy I r3 T) rfl 3 (by decide) (hts _ mX8_keptBy_0) (fun _ h9 => h9) rfl dX8_keptBy_84 ?_
          refine lv_iconst (v := 0) hx hb dX8_keptBy_87 (by decide) ?_
          refine g_iald (f := (r3 1)) (j := 0) hx hb hK hP 2 (eM_2 a cy I r3 T) (lit_in (by decide) : vp_in 0 23) rfl dX8_keptBy_88 ?_
          refine lv_icmp_ge (tgt := 94) hx hb dX8_keptBy_89 (by decide) (fun c5 => ?_) (fun c5 => ?_)
          · replace h := ite_t h c5
            refine lv_iinc (v := (x3 + 1)) (lv' := [(3, .int (x3 + 1)), (2, .int (x2 / 7)), (4, .int (x2 - x2 / 7 * 7)), (0, .ref (a 0))]) hx hb dX8_keptBy_94 hl (k := 3) rfl rfl (by decide) rfl (fun ls hl => ?_)
            refine lv_goto (tgt := 4) hx hb dX8_keptBy_97 (by decide) ?_
            exact ih4 _ _ _ h _ _ hP hD hS _ (lv_sub hl [3, 1, 0] rfl)
          · replace h := ite_f h c5
            refine lv_iload_n hx hb dX8_keptBy_92 rfl (lv_at hl 3 rfl) ?_
            obtain rfl := Option.some.inj h
            exact g_iret hx hb hr hK hP hD hS hQ dX8_keptBy_93
        · replace h := ite_f h c2
          refine lv_iload hx hb dX8_keptBy_27 (lv_at hl 1 rfl) ?_
          refine lv_aload_n hx hb dX8_keptBy_29 rfl (lv_at hl 2 rfl) ?_
          refine va_get (D := (dC, dI)) (ci := 8) (v := .ref (a 2)) (C := RX8) (T := TX8) (N := 19) hx hb hts inX8_keptBy_X8 hown hK hP 0 (eM_0 a cy I A_4 T) rfl 3 (by decide) (hts _ mX8_keptBy_0) (fun _ h9 => h9) rfl dX8_keptBy_30 ?_
          refine lv_iconst (v := 0) hx hb dX8_keptBy_33 (by decide) ?_
          refine g_iald (f := (A_4 1)) (j := 0) hx hb hK hP 2 (eM_2 a cy I A_4 T) (lit_in (by decide) : vp_in 0 23) rfl dX8_keptBy_34 ?_
          refine lv_icmp_ge (tgt := 47) hx hb dX8_keptBy_35 (by decide) (fun c6 => ?_) (fun c6 => ?_)
          · replace h := ite_t h c6
            refine lv_iconst (v := (-1)) hx hb dX8_keptBy_47 (by decide) ?_
            obtain rfl := Option.some.inj h
            exact g_iret hx hb hr hK hP hD hS hQ dX8_keptBy_48
          · replace h := ite_f h c6
            refine lv_aload_n hx hb dX8_keptBy_38 rfl (lv_at hl 2 rfl) ?_
            refine va_get (D := (dC, dI)) (ci := 8) (v := .ref (a 4)) (C := RX8) (T := TX8) (N := 19) hx hb hts inX8_keptBy_X8 hown hK hP 0 (eM_0 a cy I A_4 T) rfl 5 (by decide) (hts _ mX8_keptBy_1) (fun _ h9 => h9) rfl dX8_keptBy_39 ?_
            refine lv_iconst (v := 2) hx hb dX8_keptBy_42 (by decide) ?_
            refine g_iald (f := (A_4 3)) (j := 2) hx hb hK hP 4 (eM_4 a cy I A_4 T) (lit_in (by decide) : vp_in 2 15) rfl dX8_keptBy_43 ?_
            refine lv_if_ne (tgt := 49) hx hb dX8_keptBy_44 (by decide) (fun c7 => ?_) (fun c7 => ?_)
            · replace h := ite_f h c7
              refine lv_aload_n hx hb dX8_keptBy_49 rfl (lv_at hl 2 rfl) ?_
              refine va_get (D := (dC, dI)) (ci := 8) (v := .ref (a 4)) (C := RX8) (T := TX8) (N := 19) hx hb hts inX8_keptBy_X8 hown hK hP 0 (eM_0 a cy I A_4 T) rfl 5 (by decide) (hts _ mX8_keptBy_1) (fun _ h9 => h9) rfl dX8_keptBy_50 ?_
              refine lv_iconst (v := 3) hx hb dX8_keptBy_53 (by decide) ?_
              refine lv_iload hx hb dX8_keptBy_54 (lv_at hl 1 rfl) ?_
              refine lv_iadd hx hb dX8_keptBy_56 ?_
              refine lv_aload_n hx hb dX8_keptBy_57 rfl (lv_at hl 2 rfl) ?_
              refine lv_iload hx hb dX8_keptBy_58 (lv_at hl 1 rfl) ?_
              refine lv_iconst (v := 1) hx hb dX8_keptBy_60 (by decide) ?_
              obtain ⟨r8, hr8, h⟩ := bnd_some h
              refine g_callVi (As := [.int (x2 - x2 / 7 * 7), .int 1]) (rest := [.int (3 + (x2 - x2 / 7 * 7)), .ref (a 4)]) (ci := 8) (q0 := 0) hx hb hml hown hts (c_X8_filled_M l dC dI a cy N I A_4 T (x2 - x2 / 7 * 7) 1 r8 hr8) (cwV 2 hts gX8_keptBy_X8_filled rfl rfl rfl (by decide +kernel) ⟨Nat.le_of_ble_eq_true rfl, Nat.le_of_ble_eq_true rfl⟩) hK hP hD hS hA rfl (eM_0 a cy I A_4 T) rfl rfl hl.1 rfl (Nat.le_of_ble_eq_true rfl) dX8_keptBy_61 (fun H locs hP hD hS => ?_)
              obtain ⟨i9, h⟩ := inb_some h
              refine g_iast (f := (A_4 3)) (j := ((3 + (x2 - x2 / 7 * 7))).toNatClampNeg) hx hb hK hP hD hS 4 (eM_4 a cy I A_4 T) i9 rfl dX8_keptBy_64 (sM_4 a cy I A_4 T (upd (A_4 3) ((3 + (x2 - x2 / 7 * 7))).toNatClampNeg r8)) (fun H locs hP hD hS => ?_)
              refine lv_aload_n hx hb dX8_keptBy_65 rfl (lv_at hl 2 rfl) ?_
              refine va_get (D := (dC, dI)) (ci := 8) (v := .ref (a 4)) (C := RX8) (T := TX8) (N := 19) hx hb hts inX8_keptBy_X8 hown hK hP 0 (eM_0 a cy I (va_up A_4 3 (upd (A_4 3) ((3 + (x2 - x2 / 7 * 7))).toNatClampNeg r8)) T) rfl 5 (by decide) (hts _ mX8_keptBy_1) (fun _ h9 => h9) rfl dX8_keptBy_66 ?_
              refine lv_iconst (v := 2) hx hb dX8_keptBy_69 (by decide) ?_
              refine lv_dup2_11 hx hb dX8_keptBy_70 rfl rfl ?_
              refine g_iald (f := (upd (A_4 3) ((3 + (x2 - x2 / 7 * 7))).toNatClampNeg r8)) (j := 2) hx hb hK hP 4 (eM_4 a cy I (va_up A_4 3 (upd (A_4 3) ((3 + (x2 - x2 / 7 * 7))).toNatClampNeg r8)) T) (lit_in (by decide) : vp_in 2 15) rfl dX8_keptBy_71 ?_
              refine lv_iconst (v := 1) hx hb dX8_keptBy_72 (by decide) ?_
              refine lv_isub hx hb dX8_keptBy_73 ?_
              refine g_iast (f := (upd (A_4 3) ((3 + (x2 - x2 / 7 * 7))).toNatClampNeg r8)) (j := 2) hx hb hK hP hD hS 4 (eM_4 a cy I (va_up A_4 3 (upd (A_4 3) ((3 + (x2 - x2 / 7 * 7))).toNatClampNeg r8)) T) (lit_in (by decide) : vp_in 2 15) rfl dX8_keptBy_74 (sM_4 a cy I (va_up A_4 3 (upd (A_4 3) ((3 + (x2 - x2 / 7 * 7))).toNatClampNeg r8)) T (upd (upd (A_4 3) ((3 + (x2 - x2 / 7 * 7))).toNatClampNeg r8) 2 (((upd (A_4 3) ((3 + (x2 - x2 / 7 * 7))).toNatClampNeg r8) 2) - 1))) (fun H locs hP hD hS => ?_)
              refine lv_aload_n hx hb dX8_keptBy_75 rfl (lv_at hl 2 rfl) ?_
              obtain ⟨r10, hr10, h⟩ := bnd_some h
              refine g_callVv (As := []) (rest := []) (ci := 8) (q0 := 0) hx hb hml hown hts (c_X8_passes_M l dC dI a cy N I (va_up (va_up A_4 3 (upd (A_4 3) ((3 + (x2 - x2 / 7 * 7))).toNatClampNeg r8)) 3 (upd (upd (A_4 3) ((3 + (x2 - x2 / 7 * 7))).toNatClampNeg r8) 2 (((upd (A_4 3) ((3 + (x2 - x2 / 7 * 7))).toNatClampNeg r8) 2) - 1))) T r10 hr10) (cwV 0 hts gX8_keptBy_X8_passes rfl rfl rfl (by decide +kernel) ⟨Nat.le_of_ble_eq_true rfl, Nat.le_of_ble_eq_true rfl⟩) hK hP hD hS hA rfl (eM_0 a cy I (va_up (va_up A_4 3 (upd (A_4 3) ((3 + (x2 - x2 / 7 * 7))).toNatClampNeg r8)) 3 (upd (upd (A_4 3) ((3 + (x2 - x2 / 7 * 7))).toNatClampNeg r8) 2 (((upd (A_4 3) ((3 + (x2 - x2 / 7 * 7))).toNatClampNeg r8) 2) - 1))) T) rfl rfl hl.1 rfl (Nat.le_of_ble_eq_true rfl) dX8_keptBy_76 (fun H locs hP hD hS => ?_)
              refine lv_aload_n hx hb dX8_keptBy_79 rfl (lv_at hl 2 rfl) ?_
              obtain ⟨r11, hr11, h⟩ := bnd_some h
              refine g_callVi (As := []) (rest := []) (ci := 8) (q0 := 0) hx hb hml hown hts (c_X8_manyWarm_M l dC dI a cy N I r10 T r11 hr11) (cwV 0 hts gX8_keptBy_X8_manyWarm rfl rfl rfl (by decide +kernel) ⟨Nat.le_of_ble_eq_true rfl, Nat.le_of_ble_eq_true rfl⟩) hK hP hD hS hA rfl (eM_0 a cy I r10 T) rfl rfl hl.1 rfl (Nat.le_of_ble_eq_true rfl) dX8_keptBy_80 (fun H locs hP hD hS => ?_)
              refine lv_aload_n hx hb dX8_keptBy_83 rfl (lv_at hl 2 rfl) ?_
              refine va_get (D := (dC, dI)) (ci := 8) (v := .ref (a 2)) (C := RX8) (T := TX8) (N := 19) hx hb hts inX8_keptBy_X8 hown hK hP 0 (eM_0 a cy I r10 T) rfl 3 (by decide) (hts _ mX8_keptBy_0) (fun _ h9 => h9) rfl dX8_keptBy_84 ?_
              refine lv_iconst (v := 0) hx hb dX8_keptBy_87 (by decide) ?_
              refine g_iald (f := (r10 1)) (j := 0) hx hb hK hP 2 (eM_2 a cy I r10 T) (lit_in (by decide) : vp_in 0 23) rfl dX8_keptBy_88 ?_
              refine lv_icmp_ge (tgt := 94) hx hb dX8_keptBy_89 (by decide) (fun c12 => ?_) (fun c12 => ?_)
              · replace h := ite_t h c12
                refine lv_iinc (v := (x3 + 1)) (lv' := [(3, .int (x3 + 1)), (2, .int (x2 / 7)), (4, .int (x2 - x2 / 7 * 7)), (0, .ref (a 0))]) hx hb dX8_keptBy_94 hl (k := 3) rfl rfl (by decide) rfl (fun ls hl => ?_)
                refine lv_goto (tgt := 4) hx hb dX8_keptBy_97 (by decide) ?_
                exact ih4 _ _ _ h _ _ hP hD hS _ (lv_sub hl [3, 1, 0] rfl)
              · replace h := ite_f h c12
                refine lv_iload_n hx hb dX8_keptBy_92 rfl (lv_at hl 3 rfl) ?_
                obtain rfl := Option.some.inj h
                exact g_iret hx hb hr hK hP hD hS hQ dX8_keptBy_93
            · replace h := ite_t h c7
              refine lv_iconst (v := (-1)) hx hb dX8_keptBy_47 (by decide) ?_
              obtain rfl := Option.some.inj h
              exact g_iret hx hb hr hK hP hD hS hQ dX8_keptBy_48
  refine lp4  _ ?_ N _ _ _ h _ _ hP hD hS _ (lv_sub hl [2, 1, 0] rfl)
  intro x2 x3 A_4 h H locs hP hD hS ls hl
  refine lv_iconst (v := 4) hx hb dX8_keptBy_100 (by decide) ?_
  obtain rfl := Option.some.inj h
  exact g_iret hx hb hr hK hP hD hS hQ dX8_keptBy_101
theorem inX8_lets_X8 : ∀ w ∈ u_ws RX8 TX8 19, w ∈ wsX8_lets := by decide +kernel
theorem mX8_lets_0 : Cond.fieldLink RX8 19 "WarmBottlesModel" "s" "[I" ∈ wsX8_lets := List.mem_of_getElem? (i := 1) rfl
theorem mX8_lets_1 : Cond.fieldLink RX8 35 "WarmBottlesModel" "aside" "[I" ∈ wsX8_lets := List.mem_of_getElem? (i := 2) rfl
def rm_X8_lets_M : Room := { frames := 3, cells := 0, slots := 0, locals := 210 }
def f_X8_lets_M_L2 (N : Nat) (k_2 : Int32 → (Nat → Nat → Int32) → Option ((Nat → Nat → Int32))) (I : (Nat → Int32)) : Nat → Int32 → (Nat → Nat → Int32) → Option ((Nat → Nat → Int32))
  | 0, _, _ => none
  | n_2 + 1, x1, A_2 => (if 15 ≤ x1 then (k_2 x1 A_2) else (if x1 < 0 ∨ 15 ≤ x1.toNatClampNeg then none else (f_X8_lets_M_L2 N k_2 I n_2 (x1 + 1) (va_up A_2 3 (upd (A_2 3) x1.toNatClampNeg ((A_2 8) x1.toNatClampNeg))))))
def f_X8_lets_M (N : Nat) (I : Nat → Int32) (A : Nat → Nat → Int32)  : Option ((Nat → Nat → Int32)) := (f_X8_lets_M_L2 N (fun (x1 : Int32) (A_2 : (Nat → Nat → Int32)) => some A_2) I N 0 A)
set_option maxHeartbeats 4000000 in
set_option maxRecDepth 100000 in
theorem c_X8_lets_M (l : Launch) (dC : Nat → ClassId) (dI : Nat → Nat → Nat) (a : Nat → Nat) (cy : Nat → ClassId) (N : Nat) (I : Nat → Int32) (A : Nat → Nat → Int32) (T : Int64)  (res : (Nat → Nat → Int32)) (h : f_X8_lets_M N I A  = some res) (sz : Nat) : Met l yX8_lets wsX8_lets rm_X8_lets_M (g_Pre (dC, dI) cy [.ref (a 0)] (wM a cy I A T) sz) (g_Qv (dC, dI) cy (wM a cy I A T) (wM a cy I res T) sz) 0 0 (va_A (wM a cy I A T) sz) := by
  unfold f_X8_lets_M at h
  refine g_entry _ _ _ _ _ _ (cc := cX8_lets) (maxL := 2) (ret := none) (by decide) rfl (Nat.le_of_ble_eq_true rfl) ?_
  intro p e s m args below meth c ls hx hb hml hown hts hr hlocks hA hK hP hD hS hl Q hQ
  have hl : lv_has ls 2 [(0, .ref (a 0))] := hl
  have hown : s.vm.findClass RX8 = some m.cls := hown
  refine lv_iconst (v := 0) hx hb dX8_lets_0 (by decide) ?_
  refine lv_istore_n (lv' := [(1, .int 0), (0, .ref (a 0))]) hx hb dX8_lets_1 rfl hl (by decide) rfl (fun ls hl => ?_)
  have lp2 : ∀  (k_2 : Int32 → (Nat → Nat → Int32) → Option ((Nat → Nat → Int32))), (∀ (x1 : Int32) (A_2 : (Nat → Nat → Int32)), k_2 x1 A_2 = some res → g_At (dC, dI) p l e (headSpec wsX8_lets rm_X8_lets_M).room s m args below meth c Q (wM a cy I A T) sz 2 (wM a cy I A_2 T) [] 26 []) → ∀ (n_2 : Nat) (x1 : Int32) (A_2 : (Nat → Nat → Int32)), f_X8_lets_M_L2 N k_2 I n_2 x1 A_2 = some res → g_At (dC, dI) p l e (headSpec wsX8_lets rm_X8_lets_M).room s m args below meth c Q (wM a cy I A T) sz 2 (wM a cy I A_2 T) [(0, .ref (a 0)), (1, .int x1)] 2 [] := by
    intro  k_2 hk_2 n_2
    induction n_2 with
    | zero =>
      intro x1 A_2 h
      exact absurd h (by rw [f_X8_lets_M_L2]; exact fun q => by cases q)
    | succ n_2 ih2 =>
      intro x1 A_2 h H locs hP hD hS ls hl
      rw [f_X8_lets_M_L2] at h
      refine lv_iload_n hx hb dX8_lets_2 rfl (lv_at hl 1 rfl) ?_
      refine lv_bipush (v := 15) hx hb dX8_lets_3 (by decide) ?_
      refine lv_icmp_ge (tgt := 26) hx hb dX8_lets_5 (by decide) (fun c1 => ?_) (fun c1 => ?_)
      · replace h := ite_t h c1
        exact hk_2 _ _ h _ _ hP hD hS _ (lv_sub hl [] rfl)
      · replace h := ite_f h c1
        refine lv_aload_n hx hb dX8_lets_8 rfl (lv_at hl 0 rfl) ?_
        refine va_get (D := (dC, dI)) (ci := 8) (v := .ref (a 4)) (C := RX8) (T := TX8) (N := 19) hx hb hts inX8_lets_X8 hown hK hP 0 (eM_0 a cy I A_2 T) rfl 5 (by decide) (hts _ mX8_lets_0) (fun _ h9 => h9) rfl dX8_lets_9 ?_
        refine lv_iload_n hx hb dX8_lets_12 rfl (lv_at hl 1 rfl) ?_
        refine lv_aload_n hx hb dX8_lets_13 rfl (lv_at hl 0 rfl) ?_
        refine va_get (D := (dC, dI)) (ci := 8) (v := .ref (a 9)) (C := RX8) (T := TX8) (N := 19) hx hb hts inX8_lets_X8 hown hK hP 0 (eM_0 a cy I A_2 T) rfl 16 (by decide) (hts _ mX8_lets_1) (fun _ h9 => h9) rfl dX8_lets_14 ?_
        refine lv_iload_n hx hb dX8_lets_17 rfl (lv_at hl 1 rfl) ?_
        obtain ⟨i2, h⟩ := inb_some h
        refine g_iald (f := (A_2 8)) (j := x1.toNatClampNeg) hx hb hK hP 9 (eM_9 a cy I A_2 T) i2 rfl dX8_lets_18 ?_
        refine g_iast (f := (A_2 3)) (j := x1.toNatClampNeg) hx hb hK hP hD hS 4 (eM_4 a cy I A_2 T) i2 rfl dX8_lets_19 (sM_4 a cy I A_2 T (upd (A_2 3) x1.toNatClampNeg ((A_2 8) x1.toNatClampNeg))) (fun H locs hP hD hS => ?_)
        refine lv_iinc (v := (x1 + 1)) (lv' := [(1, .int (x1 + 1)), (0, .ref (a 0))]) hx hb dX8_lets_20 hl (k := 1) rfl rfl (by decide) rfl (fun ls hl => ?_)
        refine lv_goto (tgt := 2) hx hb dX8_lets_23 (by decide) ?_
        exact ih2 _ _ h _ _ hP hD hS _ (lv_sub hl [1, 0] rfl)
  refine lp2  _ ?_ N _ _ h _ _ hP hD hS _ (lv_sub hl [1, 0] rfl)
  intro x1 A_2 h H locs hP hD hS ls hl
  obtain rfl := Option.some.inj h
  exact g_vret hx hb hr hK hP hD hS hQ dX8_lets_26
theorem inX8_kept_X8 : ∀ w ∈ u_ws RX8 TX8 19, w ∈ wsX8_kept := by decide +kernel
theorem mX8_kept_0 : Cond.fieldLink RX8 13 "WarmBottlesModel" "told" "[I" ∈ wsX8_kept := List.mem_of_getElem? (i := 1) rfl
def rm_X8_kept_M : Room := { frames := 9, cells := 0, slots := 0, locals := 390 }
def f_X8_kept_M_L35 (N : Nat) (k_35 : Int32 → Int32 → Int32 → (Nat → Nat → Int32) → Option (Int32 × (Nat → Nat → Int32))) (x1 : Int32) (I : (Nat → Int32)) : Nat → Int32 → Int32 → Int32 → (Nat → Nat → Int32) → Option (Int32 × (Nat → Nat → Int32))
  | 0, _, _, _, _ => none
  | n_35 + 1, x2, x3, x4, A_35 => (if 2401 ≤ x4 then (k_35 x2 x3 x4 A_35) else (Option.bind (f_X8_keptBy_M N I A_35 x4) (fun r8 => (Option.bind (f_X8_lets_M N I r8.2) (fun r9 => (if x2 < r8.1 then (f_X8_kept_M_L35 N k_35 x1 I n_35 r8.1 (x4 - x4 / 7 * 7) (x4 + 1) r9) else (if r8.1 = x2 then (if x3 ≤ (x4 - x4 / 7 * 7) then (f_X8_kept_M_L35 N k_35 x1 I n_35 x2 x3 (x4 + 1) r9) else (f_X8_kept_M_L35 N k_35 x1 I n_35 r8.1 (x4 - x4 / 7 * 7) (x4 + 1) r9)) else (f_X8_kept_M_L35 N k_35 x1 I n_35 x2 x3 (x4 + 1) r9))))))))
def f_X8_kept_M (N : Nat) (I : Nat → Int32) (A : Nat → Nat → Int32) (p1 : Int32) : Option (Int32 × (Nat → Nat → Int32)) := (Option.bind (f_X8_in_M N I A p1 0 1) (fun r1 => (if r1 = 0 then some ((-1), A) else (if ((A 1) 0) = 0 then some ((-9), A) else (Option.bind (f_X8_holds_M N I A) (fun r4 => (f_X8_kept_M_L35 N (fun (x2 : Int32) (x3 : Int32) (x4 : Int32) (A_35 : (Nat → Nat → Int32)) => (if p1 = 0 then some (x2, A_35) else (if x2 = 0 then some ((-9), A_35) else some (x3, A_35)))) p1 I N 0 6 0 r4)))))))
set_option maxHeartbeats 4000000 in
set_option maxRecDepth 100000 in
theorem c_X8_kept_M (l : Launch) (dC : Nat → ClassId) (dI : Nat → Nat → Nat) (a : Nat → Nat) (cy : Nat → ClassId) (N : Nat) (I : Nat → Int32) (A : Nat → Nat → Int32) (T : Int64) (p1 : Int32) (res : Int32 × (Nat → Nat → Int32)) (h : f_X8_kept_M N I A p1 = some res) (sz : Nat) : Met l yX8_kept wsX8_kept rm_X8_kept_M (g_Pre (dC, dI) cy [.ref (a 0), .int p1] (wM a cy I A T) sz) (g_Qi (dC, dI) cy res.1 (wM a cy I A T) (wM a cy I res.2 T) sz) 0 0 (va_A (wM a cy I A T) sz) := by
  unfold f_X8_kept_M at h
  refine g_entry _ _ _ _ _ _ (cc := cX8_kept) (maxL := 6) (ret := (some .int)) (by decide) rfl (Nat.le_of_ble_eq_true rfl) ?_
  intro p e s m args below meth c ls hx hb hml hown hts hr hlocks hA hK hP hD hS hl Q hQ
  have hl : lv_has ls 6 [(0, .ref (a 0)), (1, .int p1)] := hl
  have hown : s.vm.findClass RX8 = some m.cls := hown
  refine lv_iload_n hx hb dX8_kept_0 rfl (lv_at hl 1 rfl) ?_
  refine lv_iconst (v := 0) hx hb dX8_kept_1 (by decide) ?_
  refine lv_iconst (v := 1) hx hb dX8_kept_2 (by decide) ?_
  obtain ⟨r1, hr1, h⟩ := bnd_some h
  refine g_callSi (As := [.int p1, .int 0, .int 1]) (rest := []) hx hb hml hown hts (c_X8_in_M l dC dI a cy N I A T p1 0 1 r1 hr1) (va_cwS 3 hts gX8_kept_X8_in rfl rfl rfl (by decide +kernel) ⟨Nat.le_of_ble_eq_true rfl, Nat.le_of_ble_eq_true rfl⟩) hK hP hD hS hA rfl hl.1 rfl (Nat.le_of_ble_eq_true rfl) dX8_kept_3 (fun H locs hP hD hS => ?_)
  refine lv_if_ne (tgt := 11) hx hb dX8_kept_6 (by decide) (fun c2 => ?_) (fun c2 => ?_)
  · replace h := ite_f h c2
    refine lv_aload_n hx hb dX8_kept_11 rfl (lv_at hl 0 rfl) ?_
    refine va_get (D := (dC, dI)) (ci := 8) (v := .ref (a 2)) (C := RX8) (T := TX8) (N := 19) hx hb hts inX8_kept_X8 hown hK hP 0 (eM_0 a cy I A T) rfl 3 (by decide) (hts _ mX8_kept_0) (fun _ h9 => h9) rfl dX8_kept_12 ?_
    refine lv_iconst (v := 0) hx hb dX8_kept_15 (by decide) ?_
    refine g_iald (f := (A 1)) (j := 0) hx hb hK hP 2 (eM_2 a cy I A T) (lit_in (by decide) : vp_in 0 23) rfl dX8_kept_16 ?_
    refine lv_if_ne (tgt := 23) hx hb dX8_kept_17 (by decide) (fun c3 => ?_) (fun c3 => ?_)
    · replace h := ite_f h c3
      refine lv_aload_n hx hb dX8_kept_23 rfl (lv_at hl 0 rfl) ?_
      obtain ⟨r4, hr4, h⟩ := bnd_some h
      refine g_callVv (As := []) (rest := []) (ci := 8) (q0 := 0) hx hb hml hown hts (c_X8_holds_M l dC dI a cy N I A T r4 hr4) (cwV 0 hts gX8_kept_X8_holds rfl rfl rfl (by decide +kernel) ⟨Nat.le_of_ble_eq_true rfl, Nat.le_of_ble_eq_true rfl⟩) hK hP hD hS hA rfl (eM_0 a cy I A T) rfl rfl hl.1 rfl (Nat.le_of_ble_eq_true rfl) dX8_kept_24 (fun H locs hP hD hS => ?_)
      refine lv_iconst (v := 0) hx hb dX8_kept_27 (by decide) ?_
      refine lv_istore_n (lv' := [(2, .int 0), (0, .ref (a 0)), (1, .int p1)]) hx hb dX8_kept_28 rfl hl (by decide) rfl (fun ls hl => ?_)
      refine lv_bipush (v := 6) hx hb dX8_kept_29 (by decide) ?_
      refine lv_istore_n (lv' := [(3, .int 6), (2, .int 0), (0, .ref (a 0)), (1, .int p1)]) hx hb dX8_kept_31 rfl hl (by decide) rfl (fun ls hl => ?_)
      refine lv_iconst (v := 0) hx hb dX8_kept_32 (by decide) ?_
      refine lv_istore (lv' := [(4, .int 0), (3, .int 6), (2, .int 0), (0, .ref (a 0)), (1, .int p1)]) hx hb dX8_kept_33 hl (by decide) rfl (fun ls hl => ?_)
      have lp35 : ∀ (x1 : Int32) (k_35 : Int32 → Int32 → Int32 → (Nat → Nat → Int32) → Option (Int32 × (Nat → Nat → Int32))), (∀ (x2 : Int32) (x3 : Int32) (x4 : Int32) (A_35 : (Nat → Nat → Int32)), k_35 x2 x3 x4 A_35 = some res → g_At (dC, dI) p l e (headSpec wsX8_kept rm_X8_kept_M).room s m args below meth c Q (wM a cy I A T) sz 6 (wM a cy I A_35 T) [(1, .int x1), (2, .int x2), (3, .int x3)] 91 []) → ∀ (n_35 : Nat) (x2 : Int32) (x3 : Int32) (x4 : Int32) (A_35 : (Nat → Nat → Int32)), f_X8_kept_M_L35 N k_35 x1 I n_35 x2 x3 x4 A_35 = some res → g_At (dC, dI) p l e (headSpec wsX8_kept rm_X8_kept_M).room s m args below meth c Q (wM a cy I A T) sz 6 (wM a cy I A_35 T) [(0, .ref (a 0)), (1, .int x1), (2, .int x2), (3, .int x3), (4, .int x4)] 35 [] := by
        intro x1 k_35 hk_35 n_35
        induction n_35 with
        | zero =>
          intro x2 x3 x4 A_35 h
          exact absurd h (by rw [f_X8_kept_M_L35]; exact fun q => by cases q)
        | succ n_35 ih35 =>
          intro x2 x3 x4 A_35 h H locs hP hD hS ls hl
          rw [f_X8_kept_M_L35] at h
          refine lv_iload hx hb dX8_kept_35 (lv_at hl 4 rfl) ?_
          refine lv_sipush (v := 2401) hx hb dX8_kept_37 (by decide) ?_
          refine lv_icmp_ge (tgt := 91) hx hb dX8_kept_40 (by decide) (fun c7 => ?_) (fun c7 => ?_)
          · replace h := ite_t h c7
            exact hk_35 _ _ _ _ h _ _ hP hD hS _ (lv_sub hl [1, 2, 3] rfl)
          · replace h := ite_f h c7
            refine lv_aload_n hx hb dX8_kept_43 rfl (lv_at hl 0 rfl) ?_
            refine lv_iload hx hb dX8_kept_44 (lv_at hl 4 rfl) ?_
            obtain ⟨r8, hr8, h⟩ := bnd_some h
            refine g_callVi (As := [.int x4]) (rest := []) (ci := 8) (q0 := 0) hx hb hml hown hts (c_X8_keptBy_M l dC dI a cy N I A_35 T x4 r8 hr8) (cwV 1 hts gX8_kept_X8_keptBy rfl rfl rfl (by decide +kernel) ⟨Nat.le_of_ble_eq_true rfl, Nat.le_of_ble_eq_true rfl⟩) hK hP hD hS hA rfl (eM_0 a cy I A_35 T) rfl rfl hl.1 rfl (Nat.le_of_ble_eq_true rfl) dX8_kept_46 (fun H locs hP hD hS => ?_)
            refine lv_istore (lv' := [(5, .int r8.1), (0, .ref (a 0)), (1, .int x1), (2, .int x2), (3, .int x3), (4, .int x4)]) hx hb dX8_kept_49 hl (by decide) rfl (fun ls hl => ?_)
            refine lv_aload_n hx hb dX8_kept_51 rfl (lv_at hl 1 rfl) ?_
            obtain ⟨r9, hr9, h⟩ := bnd_some h
            refine g_callVv (As := []) (rest := []) (ci := 8) (q0 := 0) hx hb hml hown hts (c_X8_lets_M l dC dI a cy N I r8.2 T r9 hr9) (cwV 0 hts gX8_kept_X8_lets rfl rfl rfl (by decide +kernel) ⟨Nat.le_of_ble_eq_true rfl, Nat.le_of_ble_eq_true rfl⟩) hK hP hD hS hA rfl (eM_0 a cy I r8.2 T) rfl rfl hl.1 rfl (Nat.le_of_ble_eq_true rfl) dX8_kept_52 (fun H locs hP hD hS => ?_)
            refine lv_iload hx hb dX8_kept_55 (lv_at hl 0 rfl) ?_
            refine lv_iload_n hx hb dX8_kept_57 rfl (lv_at hl 3 rfl) ?_
            refine lv_icmp_gt (tgt := 76) hx hb dX8_kept_58 (by decide) (fun c10 => ?_) (fun c10 => ?_)
            · replace h := ite_t h c10
              refine lv_iload hx hb dX8_kept_76 (lv_at hl 0 rfl) ?_
              refine lv_istore_n (lv' := [(2, .int r8.1), (5, .int r8.1), (0, .ref (a 0)), (1, .int x1), (3, .int x3), (4, .int x4)]) hx hb dX8_kept_78 rfl hl (by decide) rfl (fun ls hl => ?_)
              refine lv_iload hx hb dX8_kept_79 (lv_at hl 5 rfl) ?_
              refine lv_bipush (v := 7) hx hb dX8_kept_81 (by decide) ?_
              refine lv_irem hx hb dX8_kept_83 (by decide) ?_
              refine lv_istore_n (lv' := [(3, .int (x4 - x4 / 7 * 7)), (2, .int r8.1), (5, .int r8.1), (0, .ref (a 0)), (1, .int x1), (4, .int x4)]) hx hb dX8_kept_84 rfl hl (by decide) rfl (fun ls hl => ?_)
              refine lv_iinc (v := (x4 + 1)) (lv' := [(4, .int (x4 + 1)), (3, .int (x4 - x4 / 7 * 7)), (2, .int r8.1), (5, .int r8.1), (0, .ref (a 0)), (1, .int x1)]) hx hb dX8_kept_85 hl (k := 5) rfl rfl (by decide) rfl (fun ls hl => ?_)
              refine lv_goto (tgt := 35) hx hb dX8_kept_88 (by decide) ?_
              exact ih35 _ _ _ _ h _ _ hP hD hS _ (lv_sub hl [4, 5, 2, 1, 0] rfl)
            · replace h := ite_f h c10
              refine lv_iload hx hb dX8_kept_61 (lv_at hl 0 rfl) ?_
              refine lv_iload_n hx hb dX8_kept_63 rfl (lv_at hl 3 rfl) ?_
              refine lv_icmp_ne (tgt := 85) hx hb dX8_kept_64 (by decide) (fun c11 => ?_) (fun c11 => ?_)
              · replace h := ite_f h c11
                refine lv_iinc (v := (x4 + 1)) (lv' := [(4, .int (x4 + 1)), (5, .int r8.1), (0, .ref (a 0)), (1, .int x1), (2, .int x2), (3, .int x3)]) hx hb dX8_kept_85 hl (k := 5) rfl rfl (by decide) rfl (fun ls hl => ?_)
                refine lv_goto (tgt := 35) hx hb dX8_kept_88 (by decide) ?_
                exact ih35 _ _ _ _ h _ _ hP hD hS _ (lv_sub hl [2, 3, 4, 5, 0] rfl)
              · replace h := ite_t h c11
                refine lv_iload hx hb dX8_kept_67 (lv_at hl 5 rfl) ?_
                refine lv_bipush (v := 7) hx hb dX8_kept_69 (by decide) ?_
                refine lv_irem hx hb dX8_kept_71 (by decide) ?_
                refine lv_iload_n hx hb dX8_kept_72 rfl (lv_at hl 4 rfl) ?_
                refine lv_icmp_ge (tgt := 85) hx hb dX8_kept_73 (by decide) (fun c12 => ?_) (fun c12 => ?_)
                · replace h := ite_t h c12
                  refine lv_iinc (v := (x4 + 1)) (lv' := [(4, .int (x4 + 1)), (5, .int r8.1), (0, .ref (a 0)), (1, .int x1), (2, .int x2), (3, .int x3)]) hx hb dX8_kept_85 hl (k := 5) rfl rfl (by decide) rfl (fun ls hl => ?_)
                  refine lv_goto (tgt := 35) hx hb dX8_kept_88 (by decide) ?_
                  exact ih35 _ _ _ _ h _ _ hP hD hS _ (lv_sub hl [2, 3, 4, 5, 0] rfl)
                · replace h := ite_f h c12
                  refine lv_iload hx hb dX8_kept_76 (lv_at hl 0 rfl) ?_
                  refine lv_istore_n (lv' := [(2, .int r8.1), (5, .int r8.1), (0, .ref (a 0)), (1, .int x1), (3, .int x3), (4, .int x4)]) hx hb dX8_kept_78 rfl hl (by decide) rfl (fun ls hl => ?_)
                  refine lv_iload hx hb dX8_kept_79 (lv_at hl 5 rfl) ?_
                  refine lv_bipush (v := 7) hx hb dX8_kept_81 (by decide) ?_
                  refine lv_irem hx hb dX8_kept_83 (by decide) ?_
                  refine lv_istore_n (lv' := [(3, .int (x4 - x4 / 7 * 7)), (2, .int r8.1), (5, .int r8.1), (0, .ref (a 0)), (1, .int x1), (4, .int x4)]) hx hb dX8_kept_84 rfl hl (by decide) rfl (fun ls hl => ?_)
                  refine lv_iinc (v := (x4 + 1)) (lv' := [(4, .int (x4 + 1)), (3, .int (x4 - x4 / 7 * 7)), (2, .int r8.1), (5, .int r8.1), (0, .ref (a 0)), (1, .int x1)]) hx hb dX8_kept_85 hl (k := 5) rfl rfl (by decide) rfl (fun ls hl => ?_)
                  refine lv_goto (tgt := 35) hx hb dX8_kept_88 (by decide) ?_
                  exact ih35 _ _ _ _ h _ _ hP hD hS _ (lv_sub hl [4, 5, 2, 1, 0] rfl)
      refine lp35 _ _ ?_ N _ _ _ _ h _ _ hP hD hS _ (lv_sub hl [3, 4, 2, 1, 0] rfl)
      intro x2 x3 x4 A_35 h H locs hP hD hS ls hl
      refine lv_iload_n hx hb dX8_kept_91 rfl (lv_at hl 0 rfl) ?_
      refine lv_if_ne (tgt := 99) hx hb dX8_kept_92 (by decide) (fun c5 => ?_) (fun c5 => ?_)
      · replace h := ite_f h c5
        refine lv_iload_n hx hb dX8_kept_99 rfl (lv_at hl 1 rfl) ?_
        refine lv_if_ne (tgt := 108) hx hb dX8_kept_100 (by decide) (fun c6 => ?_) (fun c6 => ?_)
        · replace h := ite_f h c6
          refine lv_iload_n hx hb dX8_kept_108 rfl (lv_at hl 2 rfl) ?_
          obtain rfl := Option.some.inj h
          exact g_iret hx hb hr hK hP hD hS hQ dX8_kept_109
        · replace h := ite_t h c6
          refine lv_bipush (v := (-9)) hx hb dX8_kept_103 (by decide) ?_
          refine lv_goto (tgt := 109) hx hb dX8_kept_105 (by decide) ?_
          obtain rfl := Option.some.inj h
          exact g_iret hx hb hr hK hP hD hS hQ dX8_kept_109
      · replace h := ite_t h c5
        refine lv_iload_n hx hb dX8_kept_95 rfl (lv_at hl 1 rfl) ?_
        refine lv_goto (tgt := 109) hx hb dX8_kept_96 (by decide) ?_
        obtain rfl := Option.some.inj h
        exact g_iret hx hb hr hK hP hD hS hQ dX8_kept_109
    · replace h := ite_t h c3
      refine lv_bipush (v := (-9)) hx hb dX8_kept_20 (by decide) ?_
      obtain rfl := Option.some.inj h
      exact g_iret hx hb hr hK hP hD hS hQ dX8_kept_22
  · replace h := ite_t h c2
    refine lv_iconst (v := (-1)) hx hb dX8_kept_9 (by decide) ?_
    obtain rfl := Option.some.inj h
    exact g_iret hx hb hr hK hP hD hS hQ dX8_kept_10
