theorem inX7_odds_X7 : ∀ w ∈ u_ws RX7 TX7 9, w ∈ wsX7_odds := by decide +kernel
theorem mX7_odds_0 : Cond.fieldLink RX7 26 "WarmBottles" "night" "LWarmBottles$Night;" ∈ wsX7_odds := List.mem_of_getElem? (i := 1) rfl
def rm_X7_odds_C : Room := { frames := 26, cells := 0, slots := 0, locals := 824 }
def f_X7_odds_C_L64 (N : Nat) (k_64 : Int32 → Int32 → Option (Int32)) (x3 : Int32) (x4 : Int32) (x5 : Int32) (I : (Nat → Int32)) (A : (Nat → Nat → Int32)) : Nat → Int32 → Int32 → Option (Int32)
  | 0, _, _ => none
  | n_64 + 1, x6, x7 => (if x3 ≤ x7 then (k_64 x6 x7) else (f_X7_odds_C_L64 N k_64 x3 x4 x5 I A n_64 (x6 * 10) (x7 + 1)))
def f_X7_odds_C (N : Nat) (I : Nat → Int32) (A : Nat → Nat → Int32) (p1 : Int32) (p2 : Int32) (p3 : Int32) (p4 : Int32) : Option (Int32) := (Option.bind (f_X3_has_C N I A p1) (fun r1 => (if r1 = 0 then some (-1) else (if p2 < 0 then some (-1) else (if 10 < p2 then some (-1) else (if p3 < 0 then some (-1) else (if p3 ≤ 8 then (if p4 = 0 then (Option.bind (f_X3_waysStillWarm_C N I A p1 p2 p3) (fun r8 => (f_X7_odds_C_L64 N (fun (x6 : Int32) (x7 : Int32) => (if p4 = 0 then (Option.bind (f_X7_commonDivisor_C N I A r8 x6) (fun r13 => (if r13 ≤ 0 then some r8 else (if r13 = 0 then none else some (r8 / r13))))) else (Option.bind (f_X7_commonDivisor_C N I A r8 x6) (fun r10 => (if r10 ≤ 0 then some x6 else (if r10 = 0 then none else some (x6 / r10))))))) p3 p4 r8 I A N 1 0))) else (if p4 = 1 then (Option.bind (f_X3_waysStillWarm_C N I A p1 p2 p3) (fun r18 => (f_X7_odds_C_L64 N (fun (x6 : Int32) (x7 : Int32) => (if p4 = 0 then (Option.bind (f_X7_commonDivisor_C N I A r18 x6) (fun r23 => (if r23 ≤ 0 then some r18 else (if r23 = 0 then none else some (r18 / r23))))) else (Option.bind (f_X7_commonDivisor_C N I A r18 x6) (fun r20 => (if r20 ≤ 0 then some x6 else (if r20 = 0 then none else some (x6 / r20))))))) p3 p4 r18 I A N 1 0))) else some (-1))) else some (-1))))))))
set_option maxHeartbeats 4000000 in
set_option maxRecDepth 100000 in
theorem c_X7_odds_C (l : Launch) (dC : Nat → ClassId) (dI : Nat → Nat → Nat) (a : Nat → Nat) (cy : Nat → ClassId) (N : Nat) (I : Nat → Int32) (A : Nat → Nat → Int32) (T : Int64) (p1 : Int32) (p2 : Int32) (p3 : Int32) (p4 : Int32) (res : Int32) (h : f_X7_odds_C N I A p1 p2 p3 p4 = some res) (sz : Nat) : Met l yX7_odds wsX7_odds rm_X7_odds_C (g_Pre (dC, dI) cy [.ref (a 0), .int p1, .int p2, .int p3, .int p4] (wC a cy I A T) sz) (g_Qi (dC, dI) cy res (wC a cy I A T) (wC a cy I A T) sz) 0 0 (va_A (wC a cy I A T) sz) := by
  unfold f_X7_odds_C at h
  refine g_entry _ _ _ _ _ _ (cc := cX7_odds) (maxL := 9) (ret := (some .int)) (by decide) rfl (Nat.le_of_ble_eq_true rfl) ?_
  intro p e s m args below meth c ls hx hb hml hown hts hr hlocks hA hK hP hD hS hl Q hQ
  have hl : lv_has ls 9 [(0, .ref (a 0)), (1, .int p1), (2, .int p2), (3, .int p3), (4, .int p4)] := hl
  have hown : s.vm.findClass RX7 = some m.cls := hown
  refine lv_aload_n hx hb dX7_odds_0 rfl (lv_at hl 0 rfl) ?_
  refine va_get (D := (dC, dI)) (ci := 7) (v := .ref (a 7)) (C := RX7) (T := TX7) (N := 9) hx hb hts inX7_odds_X7 hown hK hP 0 (eC_0 a cy I A T) rfl 2 (by decide) (hts _ mX7_odds_0) (fun _ h9 => h9) rfl dX7_odds_1 ?_
  refine lv_iload_n hx hb dX7_odds_4 rfl (lv_at hl 1 rfl) ?_
  obtain ⟨r1, hr1, h⟩ := bnd_some h
  refine g_callVi (As := [.int p1]) (rest := []) (ci := 3) (q0 := 7) hx hb hml hown hts (c_X3_has_C l dC dI a cy N I A T p1 r1 hr1) (cwV 1 hts gX7_odds_X3_has rfl rfl rfl (by decide +kernel) ⟨Nat.le_of_ble_eq_true rfl, Nat.le_of_ble_eq_true rfl⟩) hK hP hD hS hA rfl (eC_7 a cy I A T) rfl rfl hl.1 rfl (Nat.le_of_ble_eq_true rfl) dX7_odds_5 (fun H locs hP hD hS => ?_)
  refine lv_if_eq (tgt := 31) hx hb dX7_odds_8 (by decide) (fun c2 => ?_) (fun c2 => ?_)
  · replace h := ite_t h c2
    refine lv_iconst (v := (-1)) hx hb dX7_odds_31 (by decide) ?_
    obtain rfl := Option.some.inj h
    exact g_iret hx hb hr hK hP hD hS hQ dX7_odds_32
  · replace h := ite_f h c2
    refine lv_iload_n hx hb dX7_odds_11 rfl (lv_at hl 2 rfl) ?_
    refine lv_if_lt (tgt := 31) hx hb dX7_odds_12 (by decide) (fun c3 => ?_) (fun c3 => ?_)
    · replace h := ite_t h c3
      refine lv_iconst (v := (-1)) hx hb dX7_odds_31 (by decide) ?_
      obtain rfl := Option.some.inj h
      exact g_iret hx hb hr hK hP hD hS hQ dX7_odds_32
    · replace h := ite_f h c3
      refine lv_iload_n hx hb dX7_odds_15 rfl (lv_at hl 2 rfl) ?_
      refine lv_bipush (v := 10) hx hb dX7_odds_16 (by decide) ?_
      refine lv_icmp_gt (tgt := 31) hx hb dX7_odds_18 (by decide) (fun c4 => ?_) (fun c4 => ?_)
      · replace h := ite_t h c4
        refine lv_iconst (v := (-1)) hx hb dX7_odds_31 (by decide) ?_
        obtain rfl := Option.some.inj h
        exact g_iret hx hb hr hK hP hD hS hQ dX7_odds_32
      · replace h := ite_f h c4
        refine lv_iload_n hx hb dX7_odds_21 rfl (lv_at hl 3 rfl) ?_
        refine lv_if_lt (tgt := 31) hx hb dX7_odds_22 (by decide) (fun c5 => ?_) (fun c5 => ?_)
        · replace h := ite_t h c5
          refine lv_iconst (v := (-1)) hx hb dX7_odds_31 (by decide) ?_
          obtain rfl := Option.some.inj h
          exact g_iret hx hb hr hK hP hD hS hQ dX7_odds_32
        · replace h := ite_f h c5
          refine lv_iload_n hx hb dX7_odds_25 rfl (lv_at hl 3 rfl) ?_
          refine lv_bipush (v := 8) hx hb dX7_odds_26 (by decide) ?_
          refine lv_icmp_le (tgt := 33) hx hb dX7_odds_28 (by decide) (fun c6 => ?_) (fun c6 => ?_)
          · replace h := ite_t h c6
            refine lv_iload hx hb dX7_odds_33 (lv_at hl 4 rfl) ?_
            refine lv_if_eq (tgt := 46) hx hb dX7_odds_35 (by decide) (fun c7 => ?_) (fun c7 => ?_)
            · replace h := ite_t h c7
              refine lv_aload_n hx hb dX7_odds_46 rfl (lv_at hl 0 rfl) ?_
              refine va_get (D := (dC, dI)) (ci := 7) (v := .ref (a 7)) (C := RX7) (T := TX7) (N := 9) hx hb hts inX7_odds_X7 hown hK hP 0 (eC_0 a cy I A T) rfl 2 (by decide) (hts _ mX7_odds_0) (fun _ h9 => h9) rfl dX7_odds_47 ?_
              refine lv_iload_n hx hb dX7_odds_50 rfl (lv_at hl 1 rfl) ?_
              refine lv_iload_n hx hb dX7_odds_51 rfl (lv_at hl 2 rfl) ?_
              refine lv_iload_n hx hb dX7_odds_52 rfl (lv_at hl 3 rfl) ?_
              obtain ⟨r8, hr8, h⟩ := bnd_some h
              refine g_callVi (As := [.int p1, .int p2, .int p3]) (rest := []) (ci := 3) (q0 := 7) hx hb hml hown hts (c_X3_waysStillWarm_C l dC dI a cy N I A T p1 p2 p3 r8 hr8) (cwV 3 hts gX7_odds_X3_waysStillWarm rfl rfl rfl (by decide +kernel) ⟨Nat.le_of_ble_eq_true rfl, Nat.le_of_ble_eq_true rfl⟩) hK hP hD hS hA rfl (eC_7 a cy I A T) rfl rfl hl.1 rfl (Nat.le_of_ble_eq_true rfl) dX7_odds_53 (fun H locs hP hD hS => ?_)
              refine lv_istore (lv' := [(5, .int r8), (0, .ref (a 0)), (1, .int p1), (2, .int p2), (3, .int p3), (4, .int p4)]) hx hb dX7_odds_56 hl (by decide) rfl (fun ls hl => ?_)
              refine lv_iconst (v := 1) hx hb dX7_odds_58 (by decide) ?_
              refine lv_istore (lv' := [(6, .int 1), (5, .int r8), (0, .ref (a 0)), (1, .int p1), (2, .int p2), (3, .int p3), (4, .int p4)]) hx hb dX7_odds_59 hl (by decide) rfl (fun ls hl => ?_)
              refine lv_iconst (v := 0) hx hb dX7_odds_61 (by decide) ?_
              refine lv_istore (lv' := [(7, .int 0), (6, .int 1), (5, .int r8), (0, .ref (a 0)), (1, .int p1), (2, .int p2), (3, .int p3), (4, .int p4)]) hx hb dX7_odds_62 hl (by decide) rfl (fun ls hl => ?_)
              have lp64 : ∀ (x3 : Int32) (x4 : Int32) (x5 : Int32) (k_64 : Int32 → Int32 → Option (Int32)), (∀ (x6 : Int32) (x7 : Int32), k_64 x6 x7 = some res → g_At (dC, dI) p l e (headSpec wsX7_odds rm_X7_odds_C).room s m args below meth c Q (wC a cy I A T) sz 9 (wC a cy I A T) [(4, .int x4), (5, .int x5), (6, .int x6)] 83 []) → ∀ (n_64 : Nat) (x6 : Int32) (x7 : Int32), f_X7_odds_C_L64 N k_64 x3 x4 x5 I A n_64 x6 x7 = some res → g_At (dC, dI) p l e (headSpec wsX7_odds rm_X7_odds_C).room s m args below meth c Q (wC a cy I A T) sz 9 (wC a cy I A T) [(3, .int x3), (4, .int x4), (5, .int x5), (6, .int x6), (7, .int x7)] 64 [] := by
                intro x3 x4 x5 k_64 hk_64 n_64
                induction n_64 with
                | zero =>
                  intro x6 x7 h
                  exact absurd h (by rw [f_X7_odds_C_L64]; exact fun q => by cases q)
                | succ n_64 ih64 =>
                  intro x6 x7 h H locs hP hD hS ls hl
                  rw [f_X7_odds_C_L64] at h
                  refine lv_iload hx hb dX7_odds_64 (lv_at hl 4 rfl) ?_
                  refine lv_iload_n hx hb dX7_odds_66 rfl (lv_at hl 0 rfl) ?_
                  refine lv_icmp_ge (tgt := 83) hx hb dX7_odds_67 (by decide) (fun c16 => ?_) (fun c16 => ?_)
                  · replace h := ite_t h c16
                    exact hk_64 _ _ h _ _ hP hD hS _ (lv_sub hl [1, 2, 3] rfl)
                  · replace h := ite_f h c16
                    refine lv_iload hx hb dX7_odds_70 (lv_at hl 3 rfl) ?_
                    refine lv_bipush (v := 10) hx hb dX7_odds_72 (by decide) ?_
                    refine lv_imul hx hb dX7_odds_74 ?_
                    refine lv_istore (lv' := [(6, .int (x6 * 10)), (3, .int x3), (4, .int x4), (5, .int x5), (7, .int x7)]) hx hb dX7_odds_75 hl (by decide) rfl (fun ls hl => ?_)
                    refine lv_iinc (v := (x7 + 1)) (lv' := [(7, .int (x7 + 1)), (6, .int (x6 * 10)), (3, .int x3), (4, .int x4), (5, .int x5)]) hx hb dX7_odds_77 hl (k := 4) rfl rfl (by decide) rfl (fun ls hl => ?_)
                    refine lv_goto (tgt := 64) hx hb dX7_odds_80 (by decide) ?_
                    exact ih64 _ _ h _ _ hP hD hS _ (lv_sub hl [2, 3, 4, 1, 0] rfl)
              refine lp64 _ _ _ _ ?_ N _ _ h _ _ hP hD hS _ (lv_sub hl [6, 7, 2, 1, 0] rfl)
              intro x6 x7 h H locs hP hD hS ls hl
              refine lv_iload hx hb dX7_odds_83 (lv_at hl 0 rfl) ?_
              refine lv_if_ne (tgt := 93) hx hb dX7_odds_85 (by decide) (fun c9 => ?_) (fun c9 => ?_)
              · replace h := ite_f h c9
                refine lv_iload hx hb dX7_odds_93 (lv_at hl 2 rfl) ?_
                refine lv_istore (lv' := [(7, .int x6), (4, .int p4), (5, .int r8), (6, .int x6)]) hx hb dX7_odds_95 hl (by decide) rfl (fun ls hl => ?_)
                refine lv_iload hx hb dX7_odds_97 (lv_at hl 2 rfl) ?_
                refine lv_iload hx hb dX7_odds_99 (lv_at hl 3 rfl) ?_
                obtain ⟨r10, hr10, h⟩ := bnd_some h
                refine g_callSi (As := [.int r8, .int x6]) (rest := []) hx hb hml hown hts (c_X7_commonDivisor_C l dC dI a cy N I A T r8 x6 r10 hr10) (va_cwS 2 hts gX7_odds_X7_commonDivisor rfl rfl rfl (by decide +kernel) ⟨Nat.le_of_ble_eq_true rfl, Nat.le_of_ble_eq_true rfl⟩) hK hP hD hS hA rfl hl.1 rfl (Nat.le_of_ble_eq_true rfl) dX7_odds_101 (fun H locs hP hD hS => ?_)
                refine lv_istore (lv' := [(8, .int r10), (7, .int x6), (4, .int p4), (5, .int r8), (6, .int x6)]) hx hb dX7_odds_104 hl (by decide) rfl (fun ls hl => ?_)
                refine lv_iload hx hb dX7_odds_106 (lv_at hl 0 rfl) ?_
                refine lv_if_le (tgt := 119) hx hb dX7_odds_108 (by decide) (fun c11 => ?_) (fun c11 => ?_)
                · replace h := ite_t h c11
                  refine lv_iload hx hb dX7_odds_119 (lv_at hl 1 rfl) ?_
                  obtain rfl := Option.some.inj h
                  exact g_iret hx hb hr hK hP hD hS hQ dX7_odds_121
                · replace h := ite_f h c11
                  refine lv_iload hx hb dX7_odds_111 (lv_at hl 1 rfl) ?_
                  refine lv_iload hx hb dX7_odds_113 (lv_at hl 0 rfl) ?_
                  obtain ⟨z12, h⟩ := nz_some h
                  refine lv_idiv hx hb dX7_odds_115 z12 ?_
                  refine lv_goto (tgt := 121) hx hb dX7_odds_116 (by decide) ?_
                  obtain rfl := Option.some.inj h
                  exact g_iret hx hb hr hK hP hD hS hQ dX7_odds_121
              · replace h := ite_t h c9
                refine lv_iload hx hb dX7_odds_88 (lv_at hl 1 rfl) ?_
                refine lv_goto (tgt := 95) hx hb dX7_odds_90 (by decide) ?_
                refine lv_istore (lv' := [(7, .int r8), (4, .int p4), (5, .int r8), (6, .int x6)]) hx hb dX7_odds_95 hl (by decide) rfl (fun ls hl => ?_)
                refine lv_iload hx hb dX7_odds_97 (lv_at hl 2 rfl) ?_
                refine lv_iload hx hb dX7_odds_99 (lv_at hl 3 rfl) ?_
                obtain ⟨r13, hr13, h⟩ := bnd_some h
                refine g_callSi (As := [.int r8, .int x6]) (rest := []) hx hb hml hown hts (c_X7_commonDivisor_C l dC dI a cy N I A T r8 x6 r13 hr13) (va_cwS 2 hts gX7_odds_X7_commonDivisor rfl rfl rfl (by decide +kernel) ⟨Nat.le_of_ble_eq_true rfl, Nat.le_of_ble_eq_true rfl⟩) hK hP hD hS hA rfl hl.1 rfl (Nat.le_of_ble_eq_true rfl) dX7_odds_101 (fun H locs hP hD hS => ?_)
                refine lv_istore (lv' := [(8, .int r13), (7, .int r8), (4, .int p4), (5, .int r8), (6, .int x6)]) hx hb dX7_odds_104 hl (by decide) rfl (fun ls hl => ?_)
                refine lv_iload hx hb dX7_odds_106 (lv_at hl 0 rfl) ?_
                refine lv_if_le (tgt := 119) hx hb dX7_odds_108 (by decide) (fun c14 => ?_) (fun c14 => ?_)
                · replace h := ite_t h c14
                  refine lv_iload hx hb dX7_odds_119 (lv_at hl 1 rfl) ?_
                  obtain rfl := Option.some.inj h
                  exact g_iret hx hb hr hK hP hD hS hQ dX7_odds_121
                · replace h := ite_f h c14
                  refine lv_iload hx hb dX7_odds_111 (lv_at hl 1 rfl) ?_
                  refine lv_iload hx hb dX7_odds_113 (lv_at hl 0 rfl) ?_
                  obtain ⟨z15, h⟩ := nz_some h
                  refine lv_idiv hx hb dX7_odds_115 z15 ?_
                  refine lv_goto (tgt := 121) hx hb dX7_odds_116 (by decide) ?_
                  obtain rfl := Option.some.inj h
                  exact g_iret hx hb hr hK hP hD hS hQ dX7_odds_121
            · replace h := ite_f h c7
              refine lv_iload hx hb dX7_odds_38 (lv_at hl 4 rfl) ?_
              refine lv_iconst (v := 1) hx hb dX7_odds_40 (by decide) ?_
              refine lv_icmp_eq (tgt := 46) hx hb dX7_odds_41 (by decide) (fun c17 => ?_) (fun c17 => ?_)
              · replace h := ite_t h c17
                refine lv_aload_n hx hb dX7_odds_46 rfl (lv_at hl 0 rfl) ?_
                refine va_get (D := (dC, dI)) (ci := 7) (v := .ref (a 7)) (C := RX7) (T := TX7) (N := 9) hx hb hts inX7_odds_X7 hown hK hP 0 (eC_0 a cy I A T) rfl 2 (by decide) (hts _ mX7_odds_0) (fun _ h9 => h9) rfl dX7_odds_47 ?_
                refine lv_iload_n hx hb dX7_odds_50 rfl (lv_at hl 1 rfl) ?_
                refine lv_iload_n hx hb dX7_odds_51 rfl (lv_at hl 2 rfl) ?_
                refine lv_iload_n hx hb dX7_odds_52 rfl (lv_at hl 3 rfl) ?_
                obtain ⟨r18, hr18, h⟩ := bnd_some h
                refine g_callVi (As := [.int p1, .int p2, .int p3]) (rest := []) (ci := 3) (q0 := 7) hx hb hml hown hts (c_X3_waysStillWarm_C l dC dI a cy N I A T p1 p2 p3 r18 hr18) (cwV 3 hts gX7_odds_X3_waysStillWarm rfl rfl rfl (by decide +kernel) ⟨Nat.le_of_ble_eq_true rfl, Nat.le_of_ble_eq_true rfl⟩) hK hP hD hS hA rfl (eC_7 a cy I A T) rfl rfl hl.1 rfl (Nat.le_of_ble_eq_true rfl) dX7_odds_53 (fun H locs hP hD hS => ?_)
                refine lv_istore (lv' := [(5, .int r18), (0, .ref (a 0)), (1, .int p1), (2, .int p2), (3, .int p3), (4, .int p4)]) hx hb dX7_odds_56 hl (by decide) rfl (fun ls hl => ?_)
                refine lv_iconst (v := 1) hx hb dX7_odds_58 (by decide) ?_
                refine lv_istore (lv' := [(6, .int 1), (5, .int r18), (0, .ref (a 0)), (1, .int p1), (2, .int p2), (3, .int p3), (4, .int p4)]) hx hb dX7_odds_59 hl (by decide) rfl (fun ls hl => ?_)
                refine lv_iconst (v := 0) hx hb dX7_odds_61 (by decide) ?_
                refine lv_istore (lv' := [(7, .int 0), (6, .int 1), (5, .int r18), (0, .ref (a 0)), (1, .int p1), (2, .int p2), (3, .int p3), (4, .int p4)]) hx hb dX7_odds_62 hl (by decide) rfl (fun ls hl => ?_)
                have lp64 : ∀ (x3 : Int32) (x4 : Int32) (x5 : Int32) (k_64 : Int32 → Int32 → Option (Int32)), (∀ (x6 : Int32) (x7 : Int32), k_64 x6 x7 = some res → g_At (dC, dI) p l e (headSpec wsX7_odds rm_X7_odds_C).room s m args below meth c Q (wC a cy I A T) sz 9 (wC a cy I A T) [(4, .int x4), (5, .int x5), (6, .int x6)] 83 []) → ∀ (n_64 : Nat) (x6 : Int32) (x7 : Int32), f_X7_odds_C_L64 N k_64 x3 x4 x5 I A n_64 x6 x7 = some res → g_At (dC, dI) p l e (headSpec wsX7_odds rm_X7_odds_C).room s m args below meth c Q (wC a cy I A T) sz 9 (wC a cy I A T) [(3, .int x3), (4, .int x4), (5, .int x5), (6, .int x6), (7, .int x7)] 64 [] := by
                  intro x3 x4 x5 k_64 hk_64 n_64
                  induction n_64 with
                  | zero =>
                    intro x6 x7 h
                    exact absurd h (by rw [f_X7_odds_C_L64]; exact fun q => by cases q)
                  | succ n_64 ih64 =>
                    intro x6 x7 h H locs hP hD hS ls hl
                    rw [f_X7_odds_C_L64] at h
                    refine lv_iload hx hb dX7_odds_64 (lv_at hl 4 rfl) ?_
                    refine lv_iload_n hx hb dX7_odds_66 rfl (lv_at hl 0 rfl) ?_
                    refine lv_icmp_ge (tgt := 83) hx hb dX7_odds_67 (by decide) (fun c26 => ?_) (fun c26 => ?_)
                    · replace h := ite_t h c26
                      exact hk_64 _ _ h _ _ hP hD hS _ (lv_sub hl [1, 2, 3] rfl)
                    · replace h := ite_f h c26
                      refine lv_iload hx hb dX7_odds_70 (lv_at hl 3 rfl) ?_
                      refine lv_bipush (v := 10) hx hb dX7_odds_72 (by decide) ?_
                      refine lv_imul hx hb dX7_odds_74 ?_
                      refine lv_istore (lv' := [(6, .int (x6 * 10)), (3, .int x3), (4, .int x4), (5, .int x5), (7, .int x7)]) hx hb dX7_odds_75 hl (by decide) rfl (fun ls hl => ?_)
                      refine lv_iinc (v := (x7 + 1)) (lv' := [(7, .int (x7 + 1)), (6, .int (x6 * 10)), (3, .int x3), (4, .int x4), (5, .int x5)]) hx hb dX7_odds_77 hl (k := 4) rfl rfl (by decide) rfl (fun ls hl => ?_)
                      refine lv_goto (tgt := 64) hx hb dX7_odds_80 (by decide) ?_
                      exact ih64 _ _ h _ _ hP hD hS _ (lv_sub hl [2, 3, 4, 1, 0] rfl)
                refine lp64 _ _ _ _ ?_ N _ _ h _ _ hP hD hS _ (lv_sub hl [6, 7, 2, 1, 0] rfl)
                intro x6 x7 h H locs hP hD hS ls hl
                refine lv_iload hx hb dX7_odds_83 (lv_at hl 0 rfl) ?_
                refine lv_if_ne (tgt := 93) hx hb dX7_odds_85 (by decide) (fun c19 => ?_) (fun c19 => ?_)
                · replace h := ite_f h c19
                  refine lv_iload hx hb dX7_odds_93 (lv_at hl 2 rfl) ?_
                  refine lv_istore (lv' := [(7, .int x6), (4, .int p4), (5, .int r18), (6, .int x6)]) hx hb dX7_odds_95 hl (by decide) rfl (fun ls hl => ?_)
                  refine lv_iload hx hb dX7_odds_97 (lv_at hl 2 rfl) ?_
                  refine lv_iload hx hb dX7_odds_99 (lv_at hl 3 rfl) ?_
                  obtain ⟨r20, hr20, h⟩ := bnd_some h
                  refine g_callSi (As := [.int r18, .int x6]) (rest := []) hx hb hml hown hts (c_X7_commonDivisor_C l dC dI a cy N I A T r18 x6 r20 hr20) (va_cwS 2 hts gX7_odds_X7_commonDivisor rfl rfl rfl (by decide +kernel) ⟨Nat.le_of_ble_eq_true rfl, Nat.le_of_ble_eq_true rfl⟩) hK hP hD hS hA rfl hl.1 rfl (Nat.le_of_ble_eq_true rfl) dX7_odds_101 (fun H locs hP hD hS => ?_)
                  refine lv_istore (lv' := [(8, .int r20), (7, .int x6), (4, .int p4), (5, .int r18), (6, .int x6)]) hx hb dX7_odds_104 hl (by decide) rfl (fun ls hl => ?_)
                  refine lv_iload hx hb dX7_odds_106 (lv_at hl 0 rfl) ?_
                  refine lv_if_le (tgt := 119) hx hb dX7_odds_108 (by decide) (fun c21 => ?_) (fun c21 => ?_)
                  · replace h := ite_t h c21
                    refine lv_iload hx hb dX7_odds_119 (lv_at hl 1 rfl) ?_
                    obtain rfl := Option.some.inj h
                    exact g_iret hx hb hr hK hP hD hS hQ dX7_odds_121
                  · replace h := ite_f h c21
                    refine lv_iload hx hb dX7_odds_111 (lv_at hl 1 rfl) ?_
                    refine lv_iload hx hb dX7_odds_113 (lv_at hl 0 rfl) ?_
                    obtain ⟨z22, h⟩ := nz_some h
                    refine lv_idiv hx hb dX7_odds_115 z22 ?_
                    refine lv_goto (tgt := 121) hx hb dX7_odds_116 (by decide) ?_
                    obtain rfl := Option.some.inj h
                    exact g_iret hx hb hr hK hP hD hS hQ dX7_odds_121
                · replace h := ite_t h c19
                  refine lv_iload hx hb dX7_odds_88 (lv_at hl 1 rfl) ?_
                  refine lv_goto (tgt := 95) hx hb dX7_odds_90 (by decide) ?_
                  refine lv_istore (lv' := [(7, .int r18), (4, .int p4), (5, .int r18), (6, .int x6)]) hx hb dX7_odds_95 hl (by decide) rfl (fun ls hl => ?_)
                  refine lv_iload hx hb dX7_odds_97 (lv_at hl 2 rfl) ?_
                  refine lv_iload hx hb dX7_odds_99 (lv_at hl 3 rfl) ?_
                  obtain ⟨r23, hr23, h⟩ := bnd_some h
                  refine g_callSi (As := [.int r18, .int x6]) (rest := []) hx hb hml hown hts (c_X7_commonDivisor_C l dC dI a cy N I A T r18 x6 r23 hr23) (va_cwS 2 hts gX7_odds_X7_commonDivisor rfl rfl rfl (by decide +kernel) ⟨Nat.le_of_ble_eq_true rfl, Nat.le_of_ble_eq_true rfl⟩) hK hP hD hS hA rfl hl.1 rfl (Nat.le_of_ble_eq_true rfl) dX7_odds_101 (fun H locs hP hD hS => ?_)
                  refine lv_istore (lv' := [(8, .int r23), (7, .int r18), (4, .int p4), (5, .int r18), (6, .int x6)]) hx hb dX7_odds_104 hl (by decide) rfl (fun ls hl => ?_)
                  refine lv_iload hx hb dX7_odds_106 (lv_at hl 0 rfl) ?_
                  refine lv_if_le (tgt := 119) hx hb dX7_odds_108 (by decide) (fun c24 => ?_) (fun c24 => ?_)
                  · replace h := ite_t h c24
                    refine lv_iload hx hb dX7_odds_119 (lv_at hl 1 rfl) ?_
                    obtain rfl := Option.some.inj h
                    exact g_iret hx hb hr hK hP hD hS hQ dX7_odds_121
                  · replace h := ite_f h c24
                    refine lv_iload hx hb dX7_odds_111 (lv_at hl 1 rfl) ?_
                    refine lv_iload hx hb dX7_odds_113 (lv_at hl 0 rfl) ?_
                    obtain ⟨z25, h⟩ := nz_some h
                    refine lv_idiv hx hb dX7_odds_115 z25 ?_
                    refine lv_goto (tgt := 121) hx hb dX7_odds_116 (by decide) ?_
                    obtain rfl := Option.some.inj h
                    exact g_iret hx hb hr hK hP hD hS hQ dX7_odds_121
              · replace h := ite_f h c17
                refine lv_iconst (v := (-1)) hx hb dX7_odds_44 (by decide) ?_
                obtain rfl := Option.some.inj h
                exact g_iret hx hb hr hK hP hD hS hQ dX7_odds_45
          · replace h := ite_f h c6
            refine lv_iconst (v := (-1)) hx hb dX7_odds_31 (by decide) ?_
            obtain rfl := Option.some.inj h
            exact g_iret hx hb hr hK hP hD hS hQ dX7_odds_32
