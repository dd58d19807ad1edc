theorem inX8_odds_X8 : ∀ w ∈ u_ws RX8 TX8 19, w ∈ wsX8_odds := by decide +kernel
theorem mX8_odds_0 : Cond.fieldLink RX8 19 "WarmBottlesModel" "s" "[I" ∈ wsX8_odds := List.mem_of_getElem? (i := 1) rfl
def rm_X8_odds_M : Room := { frames := 7, cells := 0, slots := 0, locals := 330 }
def f_X8_odds_M_L202 (N : Nat) (k_202 : Int32 → Int32 → Option (Int32)) (x4 : Int32) (x5 : Int32) (x6 : Int32) (I : (Nat → Int32)) (A : (Nat → Nat → Int32)) : Nat → Int32 → Int32 → Option (Int32)
  | 0, _, _ => none
  | n_202 + 1, x7, x8 => (if x8 ≤ 0 then (k_202 x7 x8) else (if x8 = 0 then none else (f_X8_odds_M_L202 N k_202 x4 x5 x6 I A n_202 x8 (x7 - x7 / x8 * x8))))
def f_X8_odds_M_L95 (N : Nat) (k_95 : Int32 → Int32 → Int32 → Option (Int32)) (x1 : Int32) (x2 : Int32) (x3 : Int32) (x4 : Int32) (x5 : Int32) (x6 : Int32) (x7 : Int32) (I : (Nat → Int32)) (A : (Nat → Nat → Int32)) : Nat → Int32 → Int32 → Int32 → Option (Int32)
  | 0, _, _, _ => none
  | n_95 + 1, x8, x9, x10 => (if x3 ≤ x10 then (k_95 x8 x9 x10) else (if ((x7 >>> (x10 &&& 31)) &&& 1) = 1 then (Option.bind (f_X8_cools_M N I A x1 (((A 3) 1) + 5)) (fun r25 => (Option.bind (f_X8_less_M N I A x9 r25) (fun r26 => (f_X8_odds_M_L95 N k_95 x1 x2 x3 x4 x5 x6 x7 I A n_95 (x8 * x2) r26 (x10 + 1)))))) else (Option.bind (f_X8_cools_M N I A x1 (((A 3) 1) + 0)) (fun r21 => (Option.bind (f_X8_less_M N I A x9 r21) (fun r22 => (f_X8_odds_M_L95 N k_95 x1 x2 x3 x4 x5 x6 x7 I A n_95 (x8 * (10 - x2)) r22 (x10 + 1))))))))
def f_X8_odds_M_L71 (N : Nat) (k_71 : Int32 → Int32 → Option (Int32)) (x1 : Int32) (x2 : Int32) (x3 : Int32) (x4 : Int32) (x6 : Int32) (I : (Nat → Int32)) (A : (Nat → Nat → Int32)) : Nat → Int32 → Int32 → Option (Int32)
  | 0, _, _ => none
  | n_71 + 1, x5, x7 => (if ((1 : Int32) <<< (x3 &&& 31)) ≤ x7 then (k_71 x5 x7) else (if (3 + x1) < 0 ∨ 15 ≤ ((3 + x1)).toNatClampNeg then none else (f_X8_odds_M_L95 N (fun (x8 : Int32) (x9 : Int32) (x10 : Int32) => (if x9 ≤ 0 then (f_X8_odds_M_L71 N k_71 x1 x2 x3 x4 x6 I A n_71 (x5 + 0) (x7 + 1)) else (f_X8_odds_M_L71 N k_71 x1 x2 x3 x4 x6 I A n_71 (x5 + x8) (x7 + 1)))) x1 x2 x3 x4 x5 x6 x7 I A N 1 ((A 3) ((3 + x1)).toNatClampNeg) 0)))
def f_X8_odds_M_L49 (N : Nat) (k_49 : Int32 → Int32 → Option (Int32)) (x1 : Int32) (x2 : Int32) (x3 : Int32) (x4 : Int32) (x5 : Int32) (I : (Nat → Int32)) (A : (Nat → Nat → Int32)) : Nat → Int32 → Int32 → Option (Int32)
  | 0, _, _ => none
  | n_49 + 1, x6, x7 => (if x3 ≤ x7 then (k_49 x6 x7) else (f_X8_odds_M_L49 N k_49 x1 x2 x3 x4 x5 I A n_49 (x6 * 10) (x7 + 1)))
def f_X8_odds_M (N : Nat) (I : Nat → Int32) (A : Nat → Nat → Int32) (p1 : Int32) (p2 : Int32) (p3 : Int32) (p4 : Int32) : Option (Int32) := (Option.bind (f_X8_isBottle_M N I A p1) (fun r1 => (if r1 = 0 then some (-1) else (Option.bind (f_X8_in_M N I A p2 0 10) (fun r3 => (if r3 = 0 then some (-1) else (Option.bind (f_X8_in_M N I A p3 0 8) (fun r5 => (if r5 = 0 then some (-1) else (Option.bind (f_X8_in_M N I A p4 0 1) (fun r7 => (if r7 = 0 then some (-1) else (f_X8_odds_M_L49 N (fun (x6 : Int32) (x7 : Int32) => (f_X8_odds_M_L71 N (fun (x5 : Int32) (x7 : Int32) => (f_X8_odds_M_L202 N (fun (x7 : Int32) (x8 : Int32) => (if p4 = 0 then (if x7 = 0 then none else some (x5 / x7)) else (if x7 = 0 then none else some (x6 / x7)))) p4 x5 x6 I A N x5 x6)) p1 p2 p3 p4 x6 I A N 0 0)) p1 p2 p3 p4 0 I A N 1 0)))))))))))))
set_option maxHeartbeats 4000000 in
set_option maxRecDepth 100000 in
theorem c_X8_odds_M (l : Launch) (dC : Nat → ClassId) (dI : Nat → Nat → Nat) (a : Nat → Nat) (cy : Nat → ClassId) (N : Nat) (I : Nat → Int32) (A : Nat → Nat → Int32) (T : Int64) (p1 : Int32) (p2 : Int32) (p3 : Int32) (p4 : Int32) (res : Int32) (h : f_X8_odds_M N I A p1 p2 p3 p4 = some res) (sz : Nat) : Met l yX8_odds wsX8_odds rm_X8_odds_M (g_Pre (dC, dI) cy [.ref (a 0), .int p1, .int p2, .int p3, .int p4] (wM a cy I A T) sz) (g_Qi (dC, dI) cy res (wM a cy I A T) (wM a cy I A T) sz) 0 0 (va_A (wM a cy I A T) sz) := by
  unfold f_X8_odds_M at h
  refine g_entry _ _ _ _ _ _ (cc := cX8_odds) (maxL := 12) (ret := (some .int)) (by decide) rfl (Nat.le_of_ble_eq_true rfl) ?_
  intro p e s m args below meth c ls hx hb hml hown hts hr hlocks hA hK hP hD hS hl Q hQ
  have hl : lv_has ls 12 [(0, .ref (a 0)), (1, .int p1), (2, .int p2), (3, .int p3), (4, .int p4)] := hl
  have hown : s.vm.findClass RX8 = some m.cls := hown
  refine lv_aload_n hx hb dX8_odds_0 rfl (lv_at hl 0 rfl) ?_
  refine lv_iload_n hx hb dX8_odds_1 rfl (lv_at hl 1 rfl) ?_
  obtain ⟨r1, hr1, h⟩ := bnd_some h
  refine g_callVi (As := [.int p1]) (rest := []) (ci := 8) (q0 := 0) hx hb hml hown hts (c_X8_isBottle_M l dC dI a cy N I A T p1 r1 hr1) (cwV 1 hts gX8_odds_X8_isBottle rfl rfl rfl (by decide +kernel) ⟨Nat.le_of_ble_eq_true rfl, Nat.le_of_ble_eq_true rfl⟩) hK hP hD hS hA rfl (eM_0 a cy I A T) rfl rfl hl.1 rfl (Nat.le_of_ble_eq_true rfl) dX8_odds_2 (fun H locs hP hD hS => ?_)
  refine lv_if_eq (tgt := 38) hx hb dX8_odds_5 (by decide) (fun c2 => ?_) (fun c2 => ?_)
  · replace h := ite_t h c2
    refine lv_iconst (v := (-1)) hx hb dX8_odds_38 (by decide) ?_
    obtain rfl := Option.some.inj h
    exact g_iret hx hb hr hK hP hD hS hQ dX8_odds_39
  · replace h := ite_f h c2
    refine lv_iload_n hx hb dX8_odds_8 rfl (lv_at hl 2 rfl) ?_
    refine lv_iconst (v := 0) hx hb dX8_odds_9 (by decide) ?_
    refine lv_bipush (v := 10) hx hb dX8_odds_10 (by decide) ?_
    obtain ⟨r3, hr3, h⟩ := bnd_some h
    refine g_callSi (As := [.int p2, .int 0, .int 10]) (rest := []) hx hb hml hown hts (c_X8_in_M l dC dI a cy N I A T p2 0 10 r3 hr3) (va_cwS 3 hts gX8_odds_X8_in rfl rfl rfl (by decide +kernel) ⟨Nat.le_of_ble_eq_true rfl, Nat.le_of_ble_eq_true rfl⟩) hK hP hD hS hA rfl hl.1 rfl (Nat.le_of_ble_eq_true rfl) dX8_odds_12 (fun H locs hP hD hS => ?_)
    refine lv_if_eq (tgt := 38) hx hb dX8_odds_15 (by decide) (fun c4 => ?_) (fun c4 => ?_)
    · replace h := ite_t h c4
      refine lv_iconst (v := (-1)) hx hb dX8_odds_38 (by decide) ?_
      obtain rfl := Option.some.inj h
      exact g_iret hx hb hr hK hP hD hS hQ dX8_odds_39
    · replace h := ite_f h c4
      refine lv_iload_n hx hb dX8_odds_18 rfl (lv_at hl 3 rfl) ?_
      refine lv_iconst (v := 0) hx hb dX8_odds_19 (by decide) ?_
      refine lv_bipush (v := 8) hx hb dX8_odds_20 (by decide) ?_
      obtain ⟨r5, hr5, h⟩ := bnd_some h
      refine g_callSi (As := [.int p3, .int 0, .int 8]) (rest := []) hx hb hml hown hts (c_X8_in_M l dC dI a cy N I A T p3 0 8 r5 hr5) (va_cwS 3 hts gX8_odds_X8_in rfl rfl rfl (by decide +kernel) ⟨Nat.le_of_ble_eq_true rfl, Nat.le_of_ble_eq_true rfl⟩) hK hP hD hS hA rfl hl.1 rfl (Nat.le_of_ble_eq_true rfl) dX8_odds_22 (fun H locs hP hD hS => ?_)
      refine lv_if_eq (tgt := 38) hx hb dX8_odds_25 (by decide) (fun c6 => ?_) (fun c6 => ?_)
      · replace h := ite_t h c6
        refine lv_iconst (v := (-1)) hx hb dX8_odds_38 (by decide) ?_
        obtain rfl := Option.some.inj h
        exact g_iret hx hb hr hK hP hD hS hQ dX8_odds_39
      · replace h := ite_f h c6
        refine lv_iload hx hb dX8_odds_28 (lv_at hl 4 rfl) ?_
        refine lv_iconst (v := 0) hx hb dX8_odds_30 (by decide) ?_
        refine lv_iconst (v := 1) hx hb dX8_odds_31 (by decide) ?_
        obtain ⟨r7, hr7, h⟩ := bnd_some h
        refine g_callSi (As := [.int p4, .int 0, .int 1]) (rest := []) hx hb hml hown hts (c_X8_in_M l dC dI a cy N I A T p4 0 1 r7 hr7) (va_cwS 3 hts gX8_odds_X8_in rfl rfl rfl (by decide +kernel) ⟨Nat.le_of_ble_eq_true rfl, Nat.le_of_ble_eq_true rfl⟩) hK hP hD hS hA rfl hl.1 rfl (Nat.le_of_ble_eq_true rfl) dX8_odds_32 (fun H locs hP hD hS => ?_)
        refine lv_if_ne (tgt := 40) hx hb dX8_odds_35 (by decide) (fun c8 => ?_) (fun c8 => ?_)
        · replace h := ite_f h c8
          refine lv_iconst (v := 0) hx hb dX8_odds_40 (by decide) ?_
          refine lv_istore (lv' := [(5, .int 0), (0, .ref (a 0)), (1, .int p1), (2, .int p2), (3, .int p3), (4, .int p4)]) hx hb dX8_odds_41 hl (by decide) rfl (fun ls hl => ?_)
          refine lv_iconst (v := 1) hx hb dX8_odds_43 (by decide) ?_
          refine lv_istore (lv' := [(6, .int 1), (5, .int 0), (0, .ref (a 0)), (1, .int p1), (2, .int p2), (3, .int p3), (4, .int p4)]) hx hb dX8_odds_44 hl (by decide) rfl (fun ls hl => ?_)
          refine lv_iconst (v := 0) hx hb dX8_odds_46 (by decide) ?_
          refine lv_istore (lv' := [(7, .int 0), (6, .int 1), (5, .int 0), (0, .ref (a 0)), (1, .int p1), (2, .int p2), (3, .int p3), (4, .int p4)]) hx hb dX8_odds_47 hl (by decide) rfl (fun ls hl => ?_)
          have lp49 : ∀ (x1 : Int32) (x2 : Int32) (x3 : Int32) (x4 : Int32) (x5 : Int32) (k_49 : Int32 → Int32 → Option (Int32)), (∀ (x6 : Int32) (x7 : Int32), k_49 x6 x7 = some res → g_At (dC, dI) p l e (headSpec wsX8_odds rm_X8_odds_M).room s m args below meth c Q (wM a cy I A T) sz 12 (wM a cy I A T) [(0, .ref (a 0)), (1, .int x1), (2, .int x2), (3, .int x3), (4, .int x4), (5, .int x5), (6, .int x6)] 68 []) → ∀ (n_49 : Nat) (x6 : Int32) (x7 : Int32), f_X8_odds_M_L49 N k_49 x1 x2 x3 x4 x5 I A n_49 x6 x7 = some res → g_At (dC, dI) p l e (headSpec wsX8_odds rm_X8_odds_M).room s m args below meth c Q (wM a cy I A T) sz 12 (wM a cy I A T) [(0, .ref (a 0)), (1, .int x1), (2, .int x2), (3, .int x3), (4, .int x4), (5, .int x5), (6, .int x6), (7, .int x7)] 49 [] := by
            intro x1 x2 x3 x4 x5 k_49 hk_49 n_49
            induction n_49 with
            | zero =>
              intro x6 x7 h
              exact absurd h (by rw [f_X8_odds_M_L49]; exact fun q => by cases q)
            | succ n_49 ih49 =>
              intro x6 x7 h H locs hP hD hS ls hl
              rw [f_X8_odds_M_L49] at h
              refine lv_iload hx hb dX8_odds_49 (lv_at hl 7 rfl) ?_
              refine lv_iload_n hx hb dX8_odds_51 rfl (lv_at hl 3 rfl) ?_
              refine lv_icmp_ge (tgt := 68) hx hb dX8_odds_52 (by decide) (fun c27 => ?_) (fun c27 => ?_)
              · replace h := ite_t h c27
                exact hk_49 _ _ h _ _ hP hD hS _ (lv_sub hl [0, 1, 2, 3, 4, 5, 6] rfl)
              · replace h := ite_f h c27
                refine lv_iload hx hb dX8_odds_55 (lv_at hl 6 rfl) ?_
                refine lv_bipush (v := 10) hx hb dX8_odds_57 (by decide) ?_
                refine lv_imul hx hb dX8_odds_59 ?_
                refine lv_istore (lv' := [(6, .int (x6 * 10)), (0, .ref (a 0)), (1, .int x1), (2, .int x2), (3, .int x3), (4, .int x4), (5, .int x5), (7, .int x7)]) hx hb dX8_odds_60 hl (by decide) rfl (fun ls hl => ?_)
                refine lv_iinc (v := (x7 + 1)) (lv' := [(7, .int (x7 + 1)), (6, .int (x6 * 10)), (0, .ref (a 0)), (1, .int x1), (2, .int x2), (3, .int x3), (4, .int x4), (5, .int x5)]) hx hb dX8_odds_62 hl (k := 7) rfl rfl (by decide) rfl (fun ls hl => ?_)
                refine lv_goto (tgt := 49) hx hb dX8_odds_65 (by decide) ?_
                exact ih49 _ _ h _ _ hP hD hS _ (lv_sub hl [2, 3, 4, 5, 6, 7, 1, 0] rfl)
          refine lp49 _ _ _ _ _ _ ?_ N _ _ h _ _ hP hD hS _ (lv_sub hl [3, 4, 5, 6, 7, 2, 1, 0] rfl)
          intro x6 x7 h H locs hP hD hS ls hl
          refine lv_iconst (v := 0) hx hb dX8_odds_68 (by decide) ?_
          refine lv_istore (lv' := [(7, .int 0), (0, .ref (a 0)), (1, .int p1), (2, .int p2), (3, .int p3), (4, .int p4), (5, .int 0), (6, .int x6)]) hx hb dX8_odds_69 hl (by decide) rfl (fun ls hl => ?_)
          have lp71 : ∀ (x1 : Int32) (x2 : Int32) (x3 : Int32) (x4 : Int32) (x6 : Int32) (k_71 : Int32 → Int32 → Option (Int32)), (∀ (x5 : Int32) (x7 : Int32), k_71 x5 x7 = some res → g_At (dC, dI) p l e (headSpec wsX8_odds rm_X8_odds_M).room s m args below meth c Q (wM a cy I A T) sz 12 (wM a cy I A T) [(4, .int x4), (5, .int x5), (6, .int x6)] 194 []) → ∀ (n_71 : Nat) (x5 : Int32) (x7 : Int32), f_X8_odds_M_L71 N k_71 x1 x2 x3 x4 x6 I A n_71 x5 x7 = some res → g_At (dC, dI) p l e (headSpec wsX8_odds rm_X8_odds_M).room s m args below meth c Q (wM a cy I A T) sz 12 (wM a cy I A T) [(0, .ref (a 0)), (1, .int x1), (2, .int x2), (3, .int x3), (4, .int x4), (5, .int x5), (6, .int x6), (7, .int x7)] 71 [] := by
            intro x1 x2 x3 x4 x6 k_71 hk_71 n_71
            induction n_71 with
            | zero =>
              intro x5 x7 h
              exact absurd h (by rw [f_X8_odds_M_L71]; exact fun q => by cases q)
            | succ n_71 ih71 =>
              intro x5 x7 h H locs hP hD hS ls hl
              rw [f_X8_odds_M_L71] at h
              refine lv_iload hx hb dX8_odds_71 (lv_at hl 7 rfl) ?_
              refine lv_iconst (v := 1) hx hb dX8_odds_73 (by decide) ?_
              refine lv_iload_n hx hb dX8_odds_74 rfl (lv_at hl 3 rfl) ?_
              refine lv_ishl hx hb dX8_odds_75 ?_
              refine lv_icmp_ge (tgt := 194) hx hb dX8_odds_76 (by decide) (fun c14 => ?_) (fun c14 => ?_)
              · replace h := ite_t h c14
                exact hk_71 _ _ h _ _ hP hD hS _ (lv_sub hl [4, 5, 6] rfl)
              · replace h := ite_f h c14
                refine lv_iconst (v := 1) hx hb dX8_odds_79 (by decide) ?_
                refine lv_istore (lv' := [(8, .int 1), (0, .ref (a 0)), (1, .int x1), (2, .int x2), (3, .int x3), (4, .int x4), (5, .int x5), (6, .int x6), (7, .int x7)]) hx hb dX8_odds_80 hl (by decide) rfl (fun ls hl => ?_)
                refine lv_aload_n hx hb dX8_odds_82 rfl (lv_at hl 1 rfl) ?_
                refine va_get (D := (dC, dI)) (ci := 8) (v := .ref (a 4)) (C := RX8) (T := TX8) (N := 19) hx hb hts inX8_odds_X8 hown hK hP 0 (eM_0 a cy I A T) rfl 5 (by decide) (hts _ mX8_odds_0) (fun _ h9 => h9) rfl dX8_odds_83 ?_
                refine lv_iconst (v := 3) hx hb dX8_odds_86 (by decide) ?_
                refine lv_iload_n hx hb dX8_odds_87 rfl (lv_at hl 2 rfl) ?_
                refine lv_iadd hx hb dX8_odds_88 ?_
                obtain ⟨i15, h⟩ := inb_some h
                refine g_iald (f := (A 3)) (j := ((3 + x1)).toNatClampNeg) hx hb hK hP 4 (eM_4 a cy I A T) i15 rfl dX8_odds_89 ?_
                refine lv_istore (lv' := [(9, .int ((A 3) ((3 + x1)).toNatClampNeg)), (8, .int 1), (0, .ref (a 0)), (1, .int x1), (2, .int x2), (3, .int x3), (4, .int x4), (5, .int x5), (6, .int x6), (7, .int x7)]) hx hb dX8_odds_90 hl (by decide) rfl (fun ls hl => ?_)
                refine lv_iconst (v := 0) hx hb dX8_odds_92 (by decide) ?_
                refine lv_istore (lv' := [(10, .int 0), (9, .int ((A 3) ((3 + x1)).toNatClampNeg)), (8, .int 1), (0, .ref (a 0)), (1, .int x1), (2, .int x2), (3, .int x3), (4, .int x4), (5, .int x5), (6, .int x6), (7, .int x7)]) hx hb dX8_odds_93 hl (by decide) rfl (fun ls hl => ?_)
                have lp95 : ∀ (x1 : Int32) (x2 : Int32) (x3 : Int32) (x4 : Int32) (x5 : Int32) (x6 : Int32) (x7 : Int32) (k_95 : Int32 → Int32 → Int32 → Option (Int32)), (∀ (x8 : Int32) (x9 : Int32) (x10 : Int32), k_95 x8 x9 x10 = some res → g_At (dC, dI) p l e (headSpec wsX8_odds rm_X8_odds_M).room s m args below meth c Q (wM a cy I A T) sz 12 (wM a cy I A T) [(0, .ref (a 0)), (1, .int x1), (2, .int x2), (3, .int x3), (4, .int x4), (5, .int x5), (6, .int x6), (7, .int x7), (8, .int x8), (9, .int x9)] 172 []) → ∀ (n_95 : Nat) (x8 : Int32) (x9 : Int32) (x10 : Int32), f_X8_odds_M_L95 N k_95 x1 x2 x3 x4 x5 x6 x7 I A n_95 x8 x9 x10 = some res → g_At (dC, dI) p l e (headSpec wsX8_odds rm_X8_odds_M).room s m args below meth c Q (wM a cy I A T) sz 12 (wM a cy I A T) [(0, .ref (a 0)), (1, .int x1), (2, .int x2), (3, .int x3), (4, .int x4), (5, .int x5), (6, .int x6), (7, .int x7), (8, .int x8), (9, .int x9), (10, .int x10)] 95 [] := by
                  intro x1 x2 x3 x4 x5 x6 x7 k_95 hk_95 n_95
                  induction n_95 with
                  | zero =>
                    intro x8 x9 x10 h
                    exact absurd h (by rw [f_X8_odds_M_L95]; exact fun q => by cases q)
                  | succ n_95 ih95 =>
                    intro x8 x9 x10 h H locs hP hD hS ls hl
                    rw [f_X8_odds_M_L95] at h
                    refine lv_iload hx hb dX8_odds_95 (lv_at hl 10 rfl) ?_
                    refine lv_iload_n hx hb dX8_odds_97 rfl (lv_at hl 3 rfl) ?_
                    refine lv_icmp_ge (tgt := 172) hx hb dX8_odds_98 (by decide) (fun c17 => ?_) (fun c17 => ?_)
                    · replace h := ite_t h c17
                      exact hk_95 _ _ _ h _ _ hP hD hS _ (lv_sub hl [0, 1, 2, 3, 4, 5, 6, 7, 8, 9] rfl)
                    · replace h := ite_f h c17
                      refine lv_iload hx hb dX8_odds_101 (lv_at hl 7 rfl) ?_
                      refine lv_iload hx hb dX8_odds_103 (lv_at hl 10 rfl) ?_
                      refine lv_ishr hx hb dX8_odds_105 ?_
                      refine lv_iconst (v := 1) hx hb dX8_odds_106 (by decide) ?_
                      refine lv_iand hx hb dX8_odds_107 ?_
                      refine lv_iconst (v := 1) hx hb dX8_odds_108 (by decide) ?_
                      refine lv_icmp_ne (tgt := 116) hx hb dX8_odds_109 (by decide) (fun c18 => ?_) (fun c18 => ?_)
                      · replace h := ite_f h c18
                        refine lv_iconst (v := 0) hx hb dX8_odds_116 (by decide) ?_
                        refine lv_istore (lv' := [(11, .int 0), (0, .ref (a 0)), (1, .int x1), (2, .int x2), (3, .int x3), (4, .int x4), (5, .int x5), (6, .int x6), (7, .int x7), (8, .int x8), (9, .int x9), (10, .int x10)]) hx hb dX8_odds_117 hl (by decide) rfl (fun ls hl => ?_)
                        refine lv_iload hx hb dX8_odds_119 (lv_at hl 9 rfl) ?_
                        refine lv_iload hx hb dX8_odds_121 (lv_at hl 0 rfl) ?_
                        refine lv_if_eq (tgt := 130) hx hb dX8_odds_123 (by decide) (fun _ => ?_) (fun c19 => absurd (by decide) c19)
                        refine lv_bipush (v := 10) hx hb dX8_odds_130 (by decide) ?_
                        refine lv_iload_n hx hb dX8_odds_132 rfl (lv_at hl 3 rfl) ?_
                        refine lv_isub hx hb dX8_odds_133 ?_
                        refine lv_imul hx hb dX8_odds_134 ?_
                        refine lv_istore (lv' := [(8, .int (x8 * (10 - x2))), (11, .int 0), (0, .ref (a 0)), (1, .int x1), (2, .int x2), (3, .int x3), (4, .int x4), (5, .int x5), (6, .int x6), (7, .int x7), (9, .int x9), (10, .int x10)]) hx hb dX8_odds_135 hl (by decide) rfl (fun ls hl => ?_)
                        refine lv_iload hx hb dX8_odds_137 (lv_at hl 10 rfl) ?_
                        refine lv_aload_n hx hb dX8_odds_139 rfl (lv_at hl 2 rfl) ?_
                        refine lv_iload_n hx hb dX8_odds_140 rfl (lv_at hl 3 rfl) ?_
                        refine lv_aload_n hx hb dX8_odds_141 rfl (lv_at hl 2 rfl) ?_
                        refine va_get (D := (dC, dI)) (ci := 8) (v := .ref (a 4)) (C := RX8) (T := TX8) (N := 19) hx hb hts inX8_odds_X8 hown hK hP 0 (eM_0 a cy I A T) rfl 5 (by decide) (hts _ mX8_odds_0) (fun _ h9 => h9) rfl dX8_odds_142 ?_
                        refine lv_iconst (v := 1) hx hb dX8_odds_145 (by decide) ?_
                        refine g_iald (f := (A 3)) (j := 1) hx hb hK hP 4 (eM_4 a cy I A T) (lit_in (by decide) : vp_in 1 15) rfl dX8_odds_146 ?_
                        refine lv_iload hx hb dX8_odds_147 (lv_at hl 1 rfl) ?_
                        refine lv_if_eq (tgt := 156) hx hb dX8_odds_149 (by decide) (fun _ => ?_) (fun c20 => absurd (by decide) c20)
                        refine lv_iconst (v := 0) hx hb dX8_odds_156 (by decide) ?_
                        refine lv_iadd hx hb dX8_odds_157 ?_
                        obtain ⟨r21, hr21, h⟩ := bnd_some h
                        refine g_callVi (As := [.int x1, .int (((A 3) 1) + 0)]) (rest := [.int x9]) (ci := 8) (q0 := 0) hx hb hml hown hts (c_X8_cools_M l dC dI a cy N I A T x1 (((A 3) 1) + 0) r21 hr21) (cwV 2 hts gX8_odds_X8_cools rfl rfl rfl (by decide +kernel) ⟨Nat.le_of_ble_eq_true rfl, Nat.le_of_ble_eq_true rfl⟩) hK hP hD hS hA rfl (eM_0 a cy I A T) rfl rfl hl.1 rfl (Nat.le_of_ble_eq_true rfl) dX8_odds_158 (fun H locs hP hD hS => ?_)
                        obtain ⟨r22, hr22, h⟩ := bnd_some h
                        refine g_callSi (As := [.int x9, .int r21]) (rest := []) hx hb hml hown hts (c_X8_less_M l dC dI a cy N I A T x9 r21 r22 hr22) (va_cwS 2 hts gX8_odds_X8_less rfl rfl rfl (by decide +kernel) ⟨Nat.le_of_ble_eq_true rfl, Nat.le_of_ble_eq_true rfl⟩) hK hP hD hS hA rfl hl.1 rfl (Nat.le_of_ble_eq_true rfl) dX8_odds_161 (fun H locs hP hD hS => ?_)
                        refine lv_istore (lv' := [(9, .int r22), (8, .int (x8 * (10 - x2))), (11, .int 0), (0, .ref (a 0)), (1, .int x1), (2, .int x2), (3, .int x3), (4, .int x4), (5, .int x5), (6, .int x6), (7, .int x7), (10, .int x10)]) hx hb dX8_odds_164 hl (by decide) rfl (fun ls hl => ?_)
                        refine lv_iinc (v := (x10 + 1)) (lv' := [(10, .int (x10 + 1)), (9, .int r22), (8, .int (x8 * (10 - x2))), (11, .int 0), (0, .ref (a 0)), (1, .int x1), (2, .int x2), (3, .int x3), (4, .int x4), (5, .int x5), (6, .int x6), (7, .int x7)]) hx hb dX8_odds_166 hl (k := 11) rfl rfl (by decide) rfl (fun ls hl => ?_)
                        refine lv_goto (tgt := 95) hx hb dX8_odds_169 (by decide) ?_
                        exact ih95 _ _ _ h _ _ hP hD hS _ (lv_sub hl [4, 5, 6, 7, 8, 9, 10, 11, 2, 1, 0] rfl)
                      · replace h := ite_t h c18
                        refine lv_iconst (v := 1) hx hb dX8_odds_112 (by decide) ?_
                        refine lv_goto (tgt := 117) hx hb dX8_odds_113 (by decide) ?_
                        refine lv_istore (lv' := [(11, .int 1), (0, .ref (a 0)), (1, .int x1), (2, .int x2), (3, .int x3), (4, .int x4), (5, .int x5), (6, .int x6), (7, .int x7), (8, .int x8), (9, .int x9), (10, .int x10)]) hx hb dX8_odds_117 hl (by decide) rfl (fun ls hl => ?_)
                        refine lv_iload hx hb dX8_odds_119 (lv_at hl 9 rfl) ?_
                        refine lv_iload hx hb dX8_odds_121 (lv_at hl 0 rfl) ?_
                        refine lv_if_eq (tgt := 130) hx hb dX8_odds_123 (by decide) (fun c23 => absurd c23 (by decide)) (fun _ => ?_)
                        refine lv_iload_n hx hb dX8_odds_126 rfl (lv_at hl 3 rfl) ?_
                        refine lv_goto (tgt := 134) hx hb dX8_odds_127 (by decide) ?_
                        refine lv_imul hx hb dX8_odds_134 ?_
                        refine lv_istore (lv' := [(8, .int (x8 * x2)), (11, .int 1), (0, .ref (a 0)), (1, .int x1), (2, .int x2), (3, .int x3), (4, .int x4), (5, .int x5), (6, .int x6), (7, .int x7), (9, .int x9), (10, .int x10)]) hx hb dX8_odds_135 hl (by decide) rfl (fun ls hl => ?_)
                        refine lv_iload hx hb dX8_odds_137 (lv_at hl 10 rfl) ?_
                        refine lv_aload_n hx hb dX8_odds_139 rfl (lv_at hl 2 rfl) ?_
                        refine lv_iload_n hx hb dX8_odds_140 rfl (lv_at hl 3 rfl) ?_
                        refine lv_aload_n hx hb dX8_odds_141 rfl (lv_at hl 2 rfl) ?_
                        refine va_get (D := (dC, dI)) (ci := 8) (v := .ref (a 4)) (C := RX8) (T := TX8) (N := 19) hx hb hts inX8_odds_X8 hown hK hP 0 (eM_0 a cy I A T) rfl 5 (by decide) (hts _ mX8_odds_0) (fun _ h9 => h9) rfl dX8_odds_142 ?_
                        refine lv_iconst (v := 1) hx hb dX8_odds_145 (by decide) ?_
                        refine g_iald (f := (A 3)) (j := 1) hx hb hK hP 4 (eM_4 a cy I A T) (lit_in (by decide) : vp_in 1 15) rfl dX8_odds_146 ?_
                        refine lv_iload hx hb dX8_odds_147 (lv_at hl 1 rfl) ?_
                        refine lv_if_eq (tgt := 156) hx hb dX8_odds_149 (by decide) (fun c24 => absurd c24 (by decide)) (fun _ => ?_)
                        refine lv_iconst (v := 5) hx hb dX8_odds_152 (by decide) ?_
                        refine lv_goto (tgt := 157) hx hb dX8_odds_153 (by decide) ?_
                        refine lv_iadd hx hb dX8_odds_157 ?_
                        obtain ⟨r25, hr25, h⟩ := bnd_some h
                        refine g_callVi (As := [.int x1, .int (((A 3) 1) + 5)]) (rest := [.int x9]) (ci := 8) (q0 := 0) hx hb hml hown hts (c_X8_cools_M l dC dI a cy N I A T x1 (((A 3) 1) + 5) r25 hr25) (cwV 2 hts gX8_odds_X8_cools rfl rfl rfl (by decide +kernel) ⟨Nat.le_of_ble_eq_true rfl, Nat.le_of_ble_eq_true rfl⟩) hK hP hD hS hA rfl (eM_0 a cy I A T) rfl rfl hl.1 rfl (Nat.le_of_ble_eq_true rfl) dX8_odds_158 (fun H locs hP hD hS => ?_)
                        obtain ⟨r26, hr26, h⟩ := bnd_some h
                        refine g_callSi (As := [.int x9, .int r25]) (rest := []) hx hb hml hown hts (c_X8_less_M l dC dI a cy N I A T x9 r25 r26 hr26) (va_cwS 2 hts gX8_odds_X8_less rfl rfl rfl (by decide +kernel) ⟨Nat.le_of_ble_eq_true rfl, Nat.le_of_ble_eq_true rfl⟩) hK hP hD hS hA rfl hl.1 rfl (Nat.le_of_ble_eq_true rfl) dX8_odds_161 (fun H locs hP hD hS => ?_)
                        refine lv_istore (lv' := [(9, .int r26), (8, .int (x8 * x2)), (11, .int 1), (0, .ref (a 0)), (1, .int x1), (2, .int x2), (3, .int x3), (4, .int x4), (5, .int x5), (6, .int x6), (7, .int x7), (10, .int x10)]) hx hb dX8_odds_164 hl (by decide) rfl (fun ls hl => ?_)
                        refine lv_iinc (v := (x10 + 1)) (lv' := [(10, .int (x10 + 1)), (9, .int r26), (8, .int (x8 * x2)), (11, .int 1), (0, .ref (a 0)), (1, .int x1), (2, .int x2), (3, .int x3), (4, .int x4), (5, .int x5), (6, .int x6), (7, .int x7)]) hx hb dX8_odds_166 hl (k := 11) rfl rfl (by decide) rfl (fun ls hl => ?_)
                        refine lv_goto (tgt := 95) hx hb dX8_odds_169 (by decide) ?_
                        exact ih95 _ _ _ h _ _ hP hD hS _ (lv_sub hl [4, 5, 6, 7, 8, 9, 10, 11, 2, 1, 0] rfl)
                refine lp95 _ _ _ _ _ _ _ _ ?_ N _ _ _ h _ _ hP hD hS _ (lv_sub hl [3, 4, 5, 6, 7, 8, 9, 10, 2, 1, 0] rfl)
                intro x8 x9 x10 h H locs hP hD hS ls hl
                refine lv_iload hx hb dX8_odds_172 (lv_at hl 5 rfl) ?_
                refine lv_iload hx hb dX8_odds_174 (lv_at hl 9 rfl) ?_
                refine lv_if_le (tgt := 184) hx hb dX8_odds_176 (by decide) (fun c16 => ?_) (fun c16 => ?_)
                · replace h := ite_t h c16
                  refine lv_iconst (v := 0) hx hb dX8_odds_184 (by decide) ?_
                  refine lv_iadd hx hb dX8_odds_185 ?_
                  refine lv_istore (lv' := [(5, .int (x5 + 0)), (0, .ref (a 0)), (1, .int x1), (2, .int x2), (3, .int x3), (4, .int x4), (6, .int x6), (7, .int x7), (8, .int x8), (9, .int x9)]) hx hb dX8_odds_186 hl (by decide) rfl (fun ls hl => ?_)
                  refine lv_iinc (v := (x7 + 1)) (lv' := [(7, .int (x7 + 1)), (5, .int (x5 + 0)), (0, .ref (a 0)), (1, .int x1), (2, .int x2), (3, .int x3), (4, .int x4), (6, .int x6), (8, .int x8), (9, .int x9)]) hx hb dX8_odds_188 hl (k := 7) rfl rfl (by decide) rfl (fun ls hl => ?_)
                  refine lv_goto (tgt := 71) hx hb dX8_odds_191 (by decide) ?_
                  exact ih71 _ _ h _ _ hP hD hS _ (lv_sub hl [2, 3, 4, 5, 6, 1, 7, 0] rfl)
                · replace h := ite_f h c16
                  refine lv_iload hx hb dX8_odds_179 (lv_at hl 8 rfl) ?_
                  refine lv_goto (tgt := 185) hx hb dX8_odds_181 (by decide) ?_
                  refine lv_iadd hx hb dX8_odds_185 ?_
                  refine lv_istore (lv' := [(5, .int (x5 + x8)), (0, .ref (a 0)), (1, .int x1), (2, .int x2), (3, .int x3), (4, .int x4), (6, .int x6), (7, .int x7), (8, .int x8), (9, .int x9)]) hx hb dX8_odds_186 hl (by decide) rfl (fun ls hl => ?_)
                  refine lv_iinc (v := (x7 + 1)) (lv' := [(7, .int (x7 + 1)), (5, .int (x5 + x8)), (0, .ref (a 0)), (1, .int x1), (2, .int x2), (3, .int x3), (4, .int x4), (6, .int x6), (8, .int x8), (9, .int x9)]) hx hb dX8_odds_188 hl (k := 7) rfl rfl (by decide) rfl (fun ls hl => ?_)
                  refine lv_goto (tgt := 71) hx hb dX8_odds_191 (by decide) ?_
                  exact ih71 _ _ h _ _ hP hD hS _ (lv_sub hl [2, 3, 4, 5, 6, 1, 7, 0] rfl)
          refine lp71 _ _ _ _ _ _ ?_ N _ _ h _ _ hP hD hS _ (lv_sub hl [1, 2, 3, 4, 5, 6, 7, 0] rfl)
          intro x5 x7 h H locs hP hD hS ls hl
          refine lv_iload hx hb dX8_odds_194 (lv_at hl 1 rfl) ?_
          refine lv_istore (lv' := [(7, .int x5), (4, .int p4), (5, .int x5), (6, .int x6)]) hx hb dX8_odds_196 hl (by decide) rfl (fun ls hl => ?_)
          refine lv_iload hx hb dX8_odds_198 (lv_at hl 3 rfl) ?_
          refine lv_istore (lv' := [(8, .int x6), (7, .int x5), (4, .int p4), (5, .int x5), (6, .int x6)]) hx hb dX8_odds_200 hl (by decide) rfl (fun ls hl => ?_)
          have lp202 : ∀ (x4 : Int32) (x5 : Int32) (x6 : Int32) (k_202 : Int32 → Int32 → Option (Int32)), (∀ (x7 : Int32) (x8 : Int32), k_202 x7 x8 = some res → g_At (dC, dI) p l e (headSpec wsX8_odds rm_X8_odds_M).room s m args below meth c Q (wM a cy I A T) sz 12 (wM a cy I A T) [(4, .int x4), (5, .int x5), (6, .int x6), (7, .int x7)] 225 []) → ∀ (n_202 : Nat) (x7 : Int32) (x8 : Int32), f_X8_odds_M_L202 N k_202 x4 x5 x6 I A n_202 x7 x8 = some res → g_At (dC, dI) p l e (headSpec wsX8_odds rm_X8_odds_M).room s m args below meth c Q (wM a cy I A T) sz 12 (wM a cy I A T) [(4, .int x4), (5, .int x5), (6, .int x6), (7, .int x7), (8, .int x8)] 202 [] := by
            intro x4 x5 x6 k_202 hk_202 n_202
            induction n_202 with
            | zero =>
              intro x7 x8 h
              exact absurd h (by rw [f_X8_odds_M_L202]; exact fun q => by cases q)
            | succ n_202 ih202 =>
              intro x7 x8 h H locs hP hD hS ls hl
              rw [f_X8_odds_M_L202] at h
              refine lv_iload hx hb dX8_odds_202 (lv_at hl 4 rfl) ?_
              refine lv_if_le (tgt := 225) hx hb dX8_odds_204 (by decide) (fun c12 => ?_) (fun c12 => ?_)
              · replace h := ite_t h c12
                exact hk_202 _ _ h _ _ hP hD hS _ (lv_sub hl [0, 1, 2, 3] rfl)
              · replace h := ite_f h c12
                refine lv_iload hx hb dX8_odds_207 (lv_at hl 3 rfl) ?_
                refine lv_iload hx hb dX8_odds_209 (lv_at hl 4 rfl) ?_
                obtain ⟨z13, h⟩ := nz_some h
                refine lv_irem hx hb dX8_odds_211 z13 ?_
                refine lv_istore (lv' := [(9, .int (x7 - x7 / x8 * x8)), (4, .int x4), (5, .int x5), (6, .int x6), (7, .int x7), (8, .int x8)]) hx hb dX8_odds_212 hl (by decide) rfl (fun ls hl => ?_)
                refine lv_iload hx hb dX8_odds_214 (lv_at hl 5 rfl) ?_
                refine lv_istore (lv' := [(7, .int x8), (9, .int (x7 - x7 / x8 * x8)), (4, .int x4), (5, .int x5), (6, .int x6), (8, .int x8)]) hx hb dX8_odds_216 hl (by decide) rfl (fun ls hl => ?_)
                refine lv_iload hx hb dX8_odds_218 (lv_at hl 1 rfl) ?_
                refine lv_istore (lv' := [(8, .int (x7 - x7 / x8 * x8)), (7, .int x8), (9, .int (x7 - x7 / x8 * x8)), (4, .int x4), (5, .int x5), (6, .int x6)]) hx hb dX8_odds_220 hl (by decide) rfl (fun ls hl => ?_)
                refine lv_goto (tgt := 202) hx hb dX8_odds_222 (by decide) ?_
                exact ih202 _ _ h _ _ hP hD hS _ (lv_sub hl [3, 4, 5, 1, 0] rfl)
          refine lp202 _ _ _ _ ?_ N _ _ h _ _ hP hD hS _ (lv_sub hl [2, 3, 4, 1, 0] rfl)
          intro x7 x8 h H locs hP hD hS ls hl
          refine lv_iload hx hb dX8_odds_225 (lv_at hl 0 rfl) ?_
          refine lv_if_ne (tgt := 238) hx hb dX8_odds_227 (by decide) (fun c9 => ?_) (fun c9 => ?_)
          · replace h := ite_f h c9
            refine lv_iload hx hb dX8_odds_238 (lv_at hl 2 rfl) ?_
            refine lv_iload hx hb dX8_odds_240 (lv_at hl 3 rfl) ?_
            obtain ⟨z10, h⟩ := nz_some h
            refine lv_idiv hx hb dX8_odds_242 z10 ?_
            obtain rfl := Option.some.inj h
            exact g_iret hx hb hr hK hP hD hS hQ dX8_odds_243
          · replace h := ite_t h c9
            refine lv_iload hx hb dX8_odds_230 (lv_at hl 1 rfl) ?_
            refine lv_iload hx hb dX8_odds_232 (lv_at hl 3 rfl) ?_
            obtain ⟨z11, h⟩ := nz_some h
            refine lv_idiv hx hb dX8_odds_234 z11 ?_
            refine lv_goto (tgt := 243) hx hb dX8_odds_235 (by decide) ?_
            obtain rfl := Option.some.inj h
            exact g_iret hx hb hr hK hP hD hS hQ dX8_odds_243
        · replace h := ite_t h c8
          refine lv_iconst (v := (-1)) hx hb dX8_odds_38 (by decide) ?_
          obtain rfl := Option.some.inj h
          exact g_iret hx hb hr hK hP hD hS hQ dX8_odds_39
theorem inX8_hears_X8 : ∀ w ∈ u_ws RX8 TX8 19, w ∈ wsX8_hears := by decide +kernel
theorem mX8_hears_0 : Cond.fieldLink RX8 95 "WarmBottlesModel" "noted" "I" ∈ wsX8_hears := List.mem_of_getElem? (i := 1) rfl
theorem mX8_hears_1 : Cond.fieldLink RX8 32 "WarmBottlesModel" "notes" "[I" ∈ wsX8_hears := List.mem_of_getElem? (i := 2) rfl
def rm_X8_hears_M : Room := { frames := 5, cells := 0, slots := 0, locals := 270 }
def f_X8_hears_M (N : Nat) (I : Nat → Int32) (A : Nat → Nat → Int32) (p1 : Int32) (p2 : Int32) : Option (Int32 × (Nat → Int32) × (Nat → Nat → Int32)) := (Option.bind (f_X8_in_M N I A p1 0 9) (fun r1 => (if r1 = 0 then some ((-1), I, A) else (Option.bind (f_X8_in_M N I A p2 0 2) (fun r3 => (if r3 = 0 then some ((-1), I, A) else (if (I 2) = 6 then some ((-3), I, A) else (if (2 * (I 2)) < 0 ∨ 12 ≤ ((2 * (I 2))).toNatClampNeg then none else (if ((2 * (I 2)) + 1) < 0 ∨ 12 ≤ (((2 * (I 2)) + 1)).toNatClampNeg then none else some (((I 2) + 1), (upd I 2 ((I 2) + 1)), (va_up (va_up A 7 (upd (A 7) ((2 * (I 2))).toNatClampNeg p1)) 7 (upd (upd (A 7) ((2 * (I 2))).toNatClampNeg p1) (((2 * (I 2)) + 1)).toNatClampNeg p2))))))))))))
set_option maxHeartbeats 4000000 in
set_option maxRecDepth 100000 in
theorem c_X8_hears_M (l : Launch) (dC : Nat → ClassId) (dI : Nat → Nat → Nat) (a : Nat → Nat) (cy : Nat → ClassId) (N : Nat) (I : Nat → Int32) (A : Nat → Nat → Int32) (T : Int64) (p1 : Int32) (p2 : Int32) (res : Int32 × (Nat → Int32) × (Nat → Nat → Int32)) (h : f_X8_hears_M N I A p1 p2 = some res) (sz : Nat) : Met l yX8_hears wsX8_hears rm_X8_hears_M (g_Pre (dC, dI) cy [.ref (a 0), .int p1, .int p2] (wM a cy I A T) sz) (g_Qi (dC, dI) cy res.1 (wM a cy I A T) (wM a cy res.2.1 res.2.2 T) sz) 0 0 (va_A (wM a cy I A T) sz) := by
  unfold f_X8_hears_M at h
  refine g_entry _ _ _ _ _ _ (cc := cX8_hears) (maxL := 3) (ret := (some .int)) (by decide) rfl (Nat.le_of_ble_eq_true rfl) ?_
  intro p e s m args below meth c ls hx hb hml hown hts hr hlocks hA hK hP hD hS hl Q hQ
  have hl : lv_has ls 3 [(0, .ref (a 0)), (1, .int p1), (2, .int p2)] := hl
  have hown : s.vm.findClass RX8 = some m.cls := hown
  refine lv_iload_n hx hb dX8_hears_0 rfl (lv_at hl 1 rfl) ?_
  refine lv_iconst (v := 0) hx hb dX8_hears_1 (by decide) ?_
  refine lv_bipush (v := 9) hx hb dX8_hears_2 (by decide) ?_
  obtain ⟨r1, hr1, h⟩ := bnd_some h
  refine g_callSi (As := [.int p1, .int 0, .int 9]) (rest := []) hx hb hml hown hts (c_X8_in_M l dC dI a cy N I A T p1 0 9 r1 hr1) (va_cwS 3 hts gX8_hears_X8_in rfl rfl rfl (by decide +kernel) ⟨Nat.le_of_ble_eq_true rfl, Nat.le_of_ble_eq_true rfl⟩) hK hP hD hS hA rfl hl.1 rfl (Nat.le_of_ble_eq_true rfl) dX8_hears_4 (fun H locs hP hD hS => ?_)
  refine lv_if_eq (tgt := 19) hx hb dX8_hears_7 (by decide) (fun c2 => ?_) (fun c2 => ?_)
  · replace h := ite_t h c2
    refine lv_iconst (v := (-1)) hx hb dX8_hears_19 (by decide) ?_
    obtain rfl := Option.some.inj h
    exact g_iret hx hb hr hK hP hD hS hQ dX8_hears_20
  · replace h := ite_f h c2
    refine lv_iload_n hx hb dX8_hears_10 rfl (lv_at hl 2 rfl) ?_
    refine lv_iconst (v := 0) hx hb dX8_hears_11 (by decide) ?_
    refine lv_iconst (v := 2) hx hb dX8_hears_12 (by decide) ?_
    obtain ⟨r3, hr3, h⟩ := bnd_some h
    refine g_callSi (As := [.int p2, .int 0, .int 2]) (rest := []) hx hb hml hown hts (c_X8_in_M l dC dI a cy N I A T p2 0 2 r3 hr3) (va_cwS 3 hts gX8_hears_X8_in rfl rfl rfl (by decide +kernel) ⟨Nat.le_of_ble_eq_true rfl, Nat.le_of_ble_eq_true rfl⟩) hK hP hD hS hA rfl hl.1 rfl (Nat.le_of_ble_eq_true rfl) dX8_hears_13 (fun H locs hP hD hS => ?_)
    refine lv_if_ne (tgt := 21) hx hb dX8_hears_16 (by decide) (fun c4 => ?_) (fun c4 => ?_)
    · replace h := ite_f h c4
      refine lv_aload_n hx hb dX8_hears_21 rfl (lv_at hl 0 rfl) ?_
      refine va_get (D := (dC, dI)) (ci := 8) (v := .int (I 2)) (C := RX8) (T := TX8) (N := 19) hx hb hts inX8_hears_X8 hown hK hP 0 (eM_0 a cy I A T) rfl 11 (by decide) (hts _ mX8_hears_0) (fun _ h9 => h9) rfl dX8_hears_22 ?_
      refine lv_bipush (v := 6) hx hb dX8_hears_25 (by decide) ?_
      refine lv_icmp_ne (tgt := 33) hx hb dX8_hears_27 (by decide) (fun c5 => ?_) (fun c5 => ?_)
      · replace h := ite_f h c5
        refine lv_aload_n hx hb dX8_hears_33 rfl (lv_at hl 0 rfl) ?_
        refine va_get (D := (dC, dI)) (ci := 8) (v := .ref (a 8)) (C := RX8) (T := TX8) (N := 19) hx hb hts inX8_hears_X8 hown hK hP 0 (eM_0 a cy I A T) rfl 10 (by decide) (hts _ mX8_hears_1) (fun _ h9 => h9) rfl dX8_hears_34 ?_
        refine lv_iconst (v := 2) hx hb dX8_hears_37 (by decide) ?_
        refine lv_aload_n hx hb dX8_hears_38 rfl (lv_at hl 0 rfl) ?_
        refine va_get (D := (dC, dI)) (ci := 8) (v := .int (I 2)) (C := RX8) (T := TX8) (N := 19) hx hb hts inX8_hears_X8 hown hK hP 0 (eM_0 a cy I A T) rfl 11 (by decide) (hts _ mX8_hears_0) (fun _ h9 => h9) rfl dX8_hears_39 ?_
        refine lv_imul hx hb dX8_hears_42 ?_
        refine lv_iload_n hx hb dX8_hears_43 rfl (lv_at hl 1 rfl) ?_
        obtain ⟨i6, h⟩ := inb_some h
        refine g_iast (f := (A 7)) (j := ((2 * (I 2))).toNatClampNeg) hx hb hK hP hD hS 8 (eM_8 a cy I A T) i6 rfl dX8_hears_44 (sM_8 a cy I A T (upd (A 7) ((2 * (I 2))).toNatClampNeg p1)) (fun H locs hP hD hS => ?_)
        refine lv_aload_n hx hb dX8_hears_45 rfl (lv_at hl 0 rfl) ?_
        refine va_get (D := (dC, dI)) (ci := 8) (v := .ref (a 8)) (C := RX8) (T := TX8) (N := 19) hx hb hts inX8_hears_X8 hown hK hP 0 (eM_0 a cy I (va_up A 7 (upd (A 7) ((2 * (I 2))).toNatClampNeg p1)) T) rfl 10 (by decide) (hts _ mX8_hears_1) (fun _ h9 => h9) rfl dX8_hears_46 ?_
        refine lv_iconst (v := 2) hx hb dX8_hears_49 (by decide) ?_
        refine lv_aload_n hx hb dX8_hears_50 rfl (lv_at hl 0 rfl) ?_
        refine va_get (D := (dC, dI)) (ci := 8) (v := .int (I 2)) (C := RX8) (T := TX8) (N := 19) hx hb hts inX8_hears_X8 hown hK hP 0 (eM_0 a cy I (va_up A 7 (upd (A 7) ((2 * (I 2))).toNatClampNeg p1)) T) rfl 11 (by decide) (hts _ mX8_hears_0) (fun _ h9 => h9) rfl dX8_hears_51 ?_
        refine lv_imul hx hb dX8_hears_54 ?_
        refine lv_iconst (v := 1) hx hb dX8_hears_55 (by decide) ?_
        refine lv_iadd hx hb dX8_hears_56 ?_
        refine lv_iload_n hx hb dX8_hears_57 rfl (lv_at hl 2 rfl) ?_
        obtain ⟨i7, h⟩ := inb_some h
        refine g_iast (f := (upd (A 7) ((2 * (I 2))).toNatClampNeg p1)) (j := (((2 * (I 2)) + 1)).toNatClampNeg) hx hb hK hP hD hS 8 (eM_8 a cy I (va_up A 7 (upd (A 7) ((2 * (I 2))).toNatClampNeg p1)) T) i7 rfl dX8_hears_58 (sM_8 a cy I (va_up A 7 (upd (A 7) ((2 * (I 2))).toNatClampNeg p1)) T (upd (upd (A 7) ((2 * (I 2))).toNatClampNeg p1) (((2 * (I 2)) + 1)).toNatClampNeg p2)) (fun H locs hP hD hS => ?_)
        refine lv_aload_n hx hb dX8_hears_59 rfl (lv_at hl 0 rfl) ?_
        refine lv_dup hx hb dX8_hears_60 rfl ?_
        refine va_get (D := (dC, dI)) (ci := 8) (v := .int (I 2)) (C := RX8) (T := TX8) (N := 19) hx hb hts inX8_hears_X8 hown hK hP 0 (eM_0 a cy I (va_up (va_up A 7 (upd (A 7) ((2 * (I 2))).toNatClampNeg p1)) 7 (upd (upd (A 7) ((2 * (I 2))).toNatClampNeg p1) (((2 * (I 2)) + 1)).toNatClampNeg p2)) T) rfl 11 (by decide) (hts _ mX8_hears_0) (fun _ h9 => h9) rfl dX8_hears_61 ?_
        refine lv_iconst (v := 1) hx hb dX8_hears_64 (by decide) ?_
        refine lv_iadd hx hb dX8_hears_65 ?_
        refine g_put (D := (dC, dI)) (ci := 8) (v := .int ((I 2) + 1)) (ty := .int) (C := RX8) (T := TX8) (N := 19) hx hb hts inX8_hears_X8 tyX8 tyX8_ok nmX8 hown hK hP hD hS 0 (eM_0 a cy I (va_up (va_up A 7 (upd (A 7) ((2 * (I 2))).toNatClampNeg p1)) 7 (upd (upd (A 7) ((2 * (I 2))).toNatClampNeg p1) (((2 * (I 2)) + 1)).toNatClampNeg p2)) T) rfl 11 (by decide) (hts _ mX8_hears_0) (fun _ h9 => h9) rfl (by decide +kernel) rfl rfl (Nat.le_of_ble_eq_true rfl) dX8_hears_66 (pM_0_11 a cy I (va_up (va_up A 7 (upd (A 7) ((2 * (I 2))).toNatClampNeg p1)) 7 (upd (upd (A 7) ((2 * (I 2))).toNatClampNeg p1) (((2 * (I 2)) + 1)).toNatClampNeg p2)) T ((I 2) + 1)) (fun H locs hP hD hS => ?_)
        refine lv_aload_n hx hb dX8_hears_69 rfl (lv_at hl 0 rfl) ?_
        refine va_get (D := (dC, dI)) (ci := 8) (v := .int ((I 2) + 1)) (C := RX8) (T := TX8) (N := 19) hx hb hts inX8_hears_X8 hown hK hP 0 (eM_0 a cy (upd I 2 ((I 2) + 1)) (va_up (va_up A 7 (upd (A 7) ((2 * (I 2))).toNatClampNeg p1)) 7 (upd (upd (A 7) ((2 * (I 2))).toNatClampNeg p1) (((2 * (I 2)) + 1)).toNatClampNeg p2)) T) rfl 11 (by decide) (hts _ mX8_hears_0) (fun _ h9 => h9) rfl dX8_hears_70 ?_
        obtain rfl := Option.some.inj h
        exact g_iret hx hb hr hK hP hD hS hQ dX8_hears_73
      · replace h := ite_t h c5
        refine lv_bipush (v := (-3)) hx hb dX8_hears_30 (by decide) ?_
        obtain rfl := Option.some.inj h
        exact g_iret hx hb hr hK hP hD hS hQ dX8_hears_32
    · replace h := ite_t h c4
      refine lv_iconst (v := (-1)) hx hb dX8_hears_19 (by decide) ?_
      obtain rfl := Option.some.inj h
      exact g_iret hx hb hr hK hP hD hS hQ dX8_hears_20
theorem inX8_forget_X8 : ∀ w ∈ u_ws RX8 TX8 19, w ∈ wsX8_forget := by decide +kernel
theorem mX8_forget_0 : Cond.fieldLink RX8 95 "WarmBottlesModel" "noted" "I" ∈ wsX8_forget := List.mem_of_getElem? (i := 1) rfl
def rm_X8_forget_M : Room := { frames := 3, cells := 0, slots := 0, locals := 210 }
def f_X8_forget_M (N : Nat) (I : Nat → Int32) (A : Nat → Nat → Int32)  : Option (Int32 × (Nat → Int32)) := some ((I 2), (upd I 2 0))
set_option maxHeartbeats 4000000 in
set_option maxRecDepth 100000 in
theorem c_X8_forget_M (l : Launch) (dC : Nat → ClassId) (dI : Nat → Nat → Nat) (a : Nat → Nat) (cy : Nat → ClassId) (N : Nat) (I : Nat → Int32) (A : Nat → Nat → Int32) (T : Int64)  (res : Int32 × (Nat → Int32)) (h : f_X8_forget_M N I A  = some res) (sz : Nat) : Met l yX8_forget wsX8_forget rm_X8_forget_M (g_Pre (dC, dI) cy [.ref (a 0)] (wM a cy I A T) sz) (g_Qi (dC, dI) cy res.1 (wM a cy I A T) (wM a cy res.2 A T) sz) 0 0 (va_A (wM a cy I A T) sz) := by
  unfold f_X8_forget_M at h
  refine g_entry _ _ _ _ _ _ (cc := cX8_forget) (maxL := 2) (ret := (some .int)) (by decide) rfl (Nat.le_of_ble_eq_true rfl) ?_
  intro p e s m args below meth c ls hx hb hml hown hts hr hlocks hA hK hP hD hS hl Q hQ
  have hl : lv_has ls 2 [(0, .ref (a 0))] := hl
  have hown : s.vm.findClass RX8 = some m.cls := hown
  refine lv_aload_n hx hb dX8_forget_0 rfl (lv_at hl 0 rfl) ?_
  refine va_get (D := (dC, dI)) (ci := 8) (v := .int (I 2)) (C := RX8) (T := TX8) (N := 19) hx hb hts inX8_forget_X8 hown hK hP 0 (eM_0 a cy I A T) rfl 11 (by decide) (hts _ mX8_forget_0) (fun _ h9 => h9) rfl dX8_forget_1 ?_
  refine lv_istore_n (lv' := [(1, .int (I 2)), (0, .ref (a 0))]) hx hb dX8_forget_4 rfl hl (by decide) rfl (fun ls hl => ?_)
  refine lv_aload_n hx hb dX8_forget_5 rfl (lv_at hl 1 rfl) ?_
  refine lv_iconst (v := 0) hx hb dX8_forget_6 (by decide) ?_
  refine g_put (D := (dC, dI)) (ci := 8) (v := .int 0) (ty := .int) (C := RX8) (T := TX8) (N := 19) hx hb hts inX8_forget_X8 tyX8 tyX8_ok nmX8 hown hK hP hD hS 0 (eM_0 a cy I A T) rfl 11 (by decide) (hts _ mX8_forget_0) (fun _ h9 => h9) rfl (by decide +kernel) rfl rfl (Nat.le_of_ble_eq_true rfl) dX8_forget_7 (pM_0_11 a cy I A T 0) (fun H locs hP hD hS => ?_)
  refine lv_iload_n hx hb dX8_forget_10 rfl (lv_at hl 0 rfl) ?_
  obtain rfl := Option.some.inj h
  exact g_iret hx hb hr hK hP hD hS hQ dX8_forget_11
theorem inX8_soundIn_X8 : ∀ w ∈ u_ws RX8 TX8 19, w ∈ wsX8_soundIn := by decide +kernel
theorem mX8_soundIn_0 : Cond.fieldLink RX8 19 "WarmBottlesModel" "s" "[I" ∈ wsX8_soundIn := List.mem_of_getElem? (i := 1) rfl
def rm_X8_soundIn_M : Room := { frames := 5, cells := 0, slots := 0, locals := 270 }
def f_X8_soundIn_M (N : Nat) (I : Nat → Int32) (A : Nat → Nat → Int32) (p1 : Int32) (p2 : Int32) : Option (Int32) := (if (3 + p1) < 0 ∨ 15 ≤ ((3 + p1)).toNatClampNeg then none else (Option.bind (f_X8_cools_M N I A p1 ((A 3) 1)) (fun r2 => (Option.bind (f_X8_less_M N I A ((A 3) ((3 + p1)).toNatClampNeg) (p2 * r2)) (fun r3 => (Option.bind (f_X8_soundOf_M N I A p1 r3) (fun r4 => some r4)))))))
set_option maxHeartbeats 4000000 in
set_option maxRecDepth 100000 in
theorem c_X8_soundIn_M (l : Launch) (dC : Nat → ClassId) (dI : Nat → Nat → Nat) (a : Nat → Nat) (cy : Nat → ClassId) (N : Nat) (I : Nat → Int32) (A : Nat → Nat → Int32) (T : Int64) (p1 : Int32) (p2 : Int32) (res : Int32) (h : f_X8_soundIn_M N I A p1 p2 = some res) (sz : Nat) : Met l yX8_soundIn wsX8_soundIn rm_X8_soundIn_M (g_Pre (dC, dI) cy [.ref (a 0), .int p1, .int p2] (wM a cy I A T) sz) (g_Qi (dC, dI) cy res (wM a cy I A T) (wM a cy I A T) sz) 0 0 (va_A (wM a cy I A T) sz) := by
  unfold f_X8_soundIn_M at h
  refine g_entry _ _ _ _ _ _ (cc := cX8_soundIn) (maxL := 3) (ret := (some .int)) (by decide) rfl (Nat.le_of_ble_eq_true rfl) ?_
  intro p e s m args below meth c ls hx hb hml hown hts hr hlocks hA hK hP hD hS hl Q hQ
  have hl : lv_has ls 3 [(0, .ref (a 0)), (1, .int p1), (2, .int p2)] := hl
  have hown : s.vm.findClass RX8 = some m.cls := hown
  refine lv_aload_n hx hb dX8_soundIn_0 rfl (lv_at hl 0 rfl) ?_
  refine lv_iload_n hx hb dX8_soundIn_1 rfl (lv_at hl 1 rfl) ?_
  refine lv_aload_n hx hb dX8_soundIn_2 rfl (lv_at hl 0 rfl) ?_
  refine va_get (D := (dC, dI)) (ci := 8) (v := .ref (a 4)) (C := RX8) (T := TX8) (N := 19) hx hb hts inX8_soundIn_X8 hown hK hP 0 (eM_0 a cy I A T) rfl 5 (by decide) (hts _ mX8_soundIn_0) (fun _ h9 => h9) rfl dX8_soundIn_3 ?_
  refine lv_iconst (v := 3) hx hb dX8_soundIn_6 (by decide) ?_
  refine lv_iload_n hx hb dX8_soundIn_7 rfl (lv_at hl 1 rfl) ?_
  refine lv_iadd hx hb dX8_soundIn_8 ?_
  obtain ⟨i1, h⟩ := inb_some h
  refine g_iald (f := (A 3)) (j := ((3 + p1)).toNatClampNeg) hx hb hK hP 4 (eM_4 a cy I A T) i1 rfl dX8_soundIn_9 ?_
  refine lv_iload_n hx hb dX8_soundIn_10 rfl (lv_at hl 2 rfl) ?_
  refine lv_aload_n hx hb dX8_soundIn_11 rfl (lv_at hl 0 rfl) ?_
  refine lv_iload_n hx hb dX8_soundIn_12 rfl (lv_at hl 1 rfl) ?_
  refine lv_aload_n hx hb dX8_soundIn_13 rfl (lv_at hl 0 rfl) ?_
  refine va_get (D := (dC, dI)) (ci := 8) (v := .ref (a 4)) (C := RX8) (T := TX8) (N := 19) hx hb hts inX8_soundIn_X8 hown hK hP 0 (eM_0 a cy I A T) rfl 5 (by decide) (hts _ mX8_soundIn_0) (fun _ h9 => h9) rfl dX8_soundIn_14 ?_
  refine lv_iconst (v := 1) hx hb dX8_soundIn_17 (by decide) ?_
  refine g_iald (f := (A 3)) (j := 1) hx hb hK hP 4 (eM_4 a cy I A T) (lit_in (by decide) : vp_in 1 15) rfl dX8_soundIn_18 ?_
  obtain ⟨r2, hr2, h⟩ := bnd_some h
  refine g_callVi (As := [.int p1, .int ((A 3) 1)]) (rest := [.int p2, .int ((A 3) ((3 + p1)).toNatClampNeg), .int p1, .ref (a 0)]) (ci := 8) (q0 := 0) hx hb hml hown hts (c_X8_cools_M l dC dI a cy N I A T p1 ((A 3) 1) r2 hr2) (cwV 2 hts gX8_soundIn_X8_cools rfl rfl rfl (by decide +kernel) ⟨Nat.le_of_ble_eq_true rfl, Nat.le_of_ble_eq_true rfl⟩) hK hP hD hS hA rfl (eM_0 a cy I A T) rfl rfl hl.1 rfl (Nat.le_of_ble_eq_true rfl) dX8_soundIn_19 (fun H locs hP hD hS => ?_)
  refine lv_imul hx hb dX8_soundIn_22 ?_
  obtain ⟨r3, hr3, h⟩ := bnd_some h
  refine g_callSi (As := [.int ((A 3) ((3 + p1)).toNatClampNeg), .int (p2 * r2)]) (rest := [.int p1, .ref (a 0)]) hx hb hml hown hts (c_X8_less_M l dC dI a cy N I A T ((A 3) ((3 + p1)).toNatClampNeg) (p2 * r2) r3 hr3) (va_cwS 2 hts gX8_soundIn_X8_less rfl rfl rfl (by decide +kernel) ⟨Nat.le_of_ble_eq_true rfl, Nat.le_of_ble_eq_true rfl⟩) hK hP hD hS hA rfl hl.1 rfl (Nat.le_of_ble_eq_true rfl) dX8_soundIn_23 (fun H locs hP hD hS => ?_)
  obtain ⟨r4, hr4, h⟩ := bnd_some h
  refine g_callVi (As := [.int p1, .int r3]) (rest := []) (ci := 8) (q0 := 0) hx hb hml hown hts (c_X8_soundOf_M l dC dI a cy N I A T p1 r3 r4 hr4) (cwV 2 hts gX8_soundIn_X8_soundOf rfl rfl rfl (by decide +kernel) ⟨Nat.le_of_ble_eq_true rfl, Nat.le_of_ble_eq_true rfl⟩) hK hP hD hS hA rfl (eM_0 a cy I A T) rfl rfl hl.1 rfl (Nat.le_of_ble_eq_true rfl) dX8_soundIn_26 (fun H locs hP hD hS => ?_)
  obtain rfl := Option.some.inj h
  exact g_iret hx hb hr hK hP hD hS hQ dX8_soundIn_29
theorem inX8_whoNow_X8 : ∀ w ∈ u_ws RX8 TX8 19, w ∈ wsX8_whoNow := by decide +kernel
theorem mX8_whoNow_0 : Cond.fieldLink RX8 13 "WarmBottlesModel" "told" "[I" ∈ wsX8_whoNow := List.mem_of_getElem? (i := 1) rfl
theorem mX8_whoNow_1 : Cond.fieldLink RX8 95 "WarmBottlesModel" "noted" "I" ∈ wsX8_whoNow := List.mem_of_getElem? (i := 2) rfl
theorem mX8_whoNow_2 : Cond.fieldLink RX8 32 "WarmBottlesModel" "notes" "[I" ∈ wsX8_whoNow := List.mem_of_getElem? (i := 3) rfl
def rm_X8_whoNow_M : Room := { frames := 7, cells := 0, slots := 0, locals := 330 }
def f_X8_whoNow_M_L19 (N : Nat) (k_19 : Int32 → Int32 → Option (Int32)) (x1 : Int32) (x2 : Int32) (I : (Nat → Int32)) (A : (Nat → Nat → Int32)) : Nat → Int32 → Int32 → Option (Int32)
  | 0, _, _ => none
  | n_19 + 1, x3, x4 => (if (I 2) ≤ x4 then (k_19 x3 x4) else (if x3 = 0 then (f_X8_whoNow_M_L19 N k_19 x1 x2 I A n_19 0 (x4 + 1)) else (if (2 * x4) < 0 ∨ 12 ≤ ((2 * x4)).toNatClampNeg then none else (Option.bind (f_X8_soundIn_M N I A x2 ((A 7) ((2 * x4)).toNatClampNeg)) (fun r6 => (if ((2 * x4) + 1) < 0 ∨ 12 ≤ (((2 * x4) + 1)).toNatClampNeg then none else (if r6 = ((A 7) (((2 * x4) + 1)).toNatClampNeg) then (f_X8_whoNow_M_L19 N k_19 x1 x2 I A n_19 1 (x4 + 1)) else (f_X8_whoNow_M_L19 N k_19 x1 x2 I A n_19 0 (x4 + 1)))))))))
def f_X8_whoNow_M_L4 (N : Nat) (k_4 : Int32 → Int32 → Option (Int32)) (I : (Nat → Int32)) (A : (Nat → Nat → Int32)) : Nat → Int32 → Int32 → Option (Int32)
  | 0, _, _ => none
  | n_4 + 1, x1, x2 => (if ((A 1) 0) ≤ x2 then (k_4 x1 x2) else (f_X8_whoNow_M_L19 N (fun (x3 : Int32) (x4 : Int32) => (if x3 = 0 then (f_X8_whoNow_M_L4 N k_4 I A n_4 (x1 ||| 0) (x2 + 1)) else (f_X8_whoNow_M_L4 N k_4 I A n_4 (x1 ||| ((1 : Int32) <<< (x2 &&& 31))) (x2 + 1)))) x1 x2 I A N 1 0))
def f_X8_whoNow_M (N : Nat) (I : Nat → Int32) (A : Nat → Nat → Int32)  : Option (Int32) := (f_X8_whoNow_M_L4 N (fun (x1 : Int32) (x2 : Int32) => some x1) I A N 0 0)
set_option maxHeartbeats 4000000 in
set_option maxRecDepth 100000 in
theorem c_X8_whoNow_M (l : Launch) (dC : Nat → ClassId) (dI : Nat → Nat → Nat) (a : Nat → Nat) (cy : Nat → ClassId) (N : Nat) (I : Nat → Int32) (A : Nat → Nat → Int32) (T : Int64)  (res : Int32) (h : f_X8_whoNow_M N I A  = some res) (sz : Nat) : Met l yX8_whoNow wsX8_whoNow rm_X8_whoNow_M (g_Pre (dC, dI) cy [.ref (a 0)] (wM a cy I A T) sz) (g_Qi (dC, dI) cy res (wM a cy I A T) (wM a cy I A T) sz) 0 0 (va_A (wM a cy I A T) sz) := by
  unfold f_X8_whoNow_M at h
  refine g_entry _ _ _ _ _ _ (cc := cX8_whoNow) (maxL := 5) (ret := (some .int)) (by decide) rfl (Nat.le_of_ble_eq_true rfl) ?_
  intro p e s m args below meth c ls hx hb hml hown hts hr hlocks hA hK hP hD hS hl Q hQ
  have hl : lv_has ls 5 [(0, .ref (a 0))] := hl
  have hown : s.vm.findClass RX8 = some m.cls := hown
  refine lv_iconst (v := 0) hx hb dX8_whoNow_0 (by decide) ?_
  refine lv_istore_n (lv' := [(1, .int 0), (0, .ref (a 0))]) hx hb dX8_whoNow_1 rfl hl (by decide) rfl (fun ls hl => ?_)
  refine lv_iconst (v := 0) hx hb dX8_whoNow_2 (by decide) ?_
  refine lv_istore_n (lv' := [(2, .int 0), (1, .int 0), (0, .ref (a 0))]) hx hb dX8_whoNow_3 rfl hl (by decide) rfl (fun ls hl => ?_)
  have lp4 : ∀  (k_4 : Int32 → Int32 → Option (Int32)), (∀ (x1 : Int32) (x2 : Int32), k_4 x1 x2 = some res → g_At (dC, dI) p l e (headSpec wsX8_whoNow rm_X8_whoNow_M).room s m args below meth c Q (wM a cy I A T) sz 5 (wM a cy I A T) [(1, .int x1)] 92 []) → ∀ (n_4 : Nat) (x1 : Int32) (x2 : Int32), f_X8_whoNow_M_L4 N k_4 I A n_4 x1 x2 = some res → g_At (dC, dI) p l e (headSpec wsX8_whoNow rm_X8_whoNow_M).room s m args below meth c Q (wM a cy I A T) sz 5 (wM a cy I A T) [(0, .ref (a 0)), (1, .int x1), (2, .int x2)] 4 [] := by
    intro  k_4 hk_4 n_4
    induction n_4 with
    | zero =>
      intro x1 x2 h
      exact absurd h (by rw [f_X8_whoNow_M_L4]; exact fun q => by cases q)
    | succ n_4 ih4 =>
      intro x1 x2 h H locs hP hD hS ls hl
      rw [f_X8_whoNow_M_L4] at h
      refine lv_iload_n hx hb dX8_whoNow_4 rfl (lv_at hl 2 rfl) ?_
      refine lv_aload_n hx hb dX8_whoNow_5 rfl (lv_at hl 0 rfl) ?_
      refine va_get (D := (dC, dI)) (ci := 8) (v := .ref (a 2)) (C := RX8) (T := TX8) (N := 19) hx hb hts inX8_whoNow_X8 hown hK hP 0 (eM_0 a cy I A T) rfl 3 (by decide) (hts _ mX8_whoNow_0) (fun _ h9 => h9) rfl dX8_whoNow_6 ?_
      refine lv_iconst (v := 0) hx hb dX8_whoNow_9 (by decide) ?_
      refine g_iald (f := (A 1)) (j := 0) hx hb hK hP 2 (eM_2 a cy I A T) (lit_in (by decide) : vp_in 0 23) rfl dX8_whoNow_10 ?_
      refine lv_icmp_ge (tgt := 92) hx hb dX8_whoNow_11 (by decide) (fun c1 => ?_) (fun c1 => ?_)
      · replace h := ite_t h c1
        exact hk_4 _ _ h _ _ hP hD hS _ (lv_sub hl [1] rfl)
      · replace h := ite_f h c1
        refine lv_iconst (v := 1) hx hb dX8_whoNow_14 (by decide) ?_
        refine lv_istore_n (lv' := [(3, .int 1), (0, .ref (a 0)), (1, .int x1), (2, .int x2)]) hx hb dX8_whoNow_15 rfl hl (by decide) rfl (fun ls hl => ?_)
        refine lv_iconst (v := 0) hx hb dX8_whoNow_16 (by decide) ?_
        refine lv_istore (lv' := [(4, .int 0), (3, .int 1), (0, .ref (a 0)), (1, .int x1), (2, .int x2)]) hx hb dX8_whoNow_17 hl (by decide) rfl (fun ls hl => ?_)
        have lp19 : ∀ (x1 : Int32) (x2 : Int32) (k_19 : Int32 → Int32 → Option (Int32)), (∀ (x3 : Int32) (x4 : Int32), k_19 x3 x4 = some res → g_At (dC, dI) p l e (headSpec wsX8_whoNow rm_X8_whoNow_M).room s m args below meth c Q (wM a cy I A T) sz 5 (wM a cy I A T) [(0, .ref (a 0)), (1, .int x1), (2, .int x2), (3, .int x3)] 72 []) → ∀ (n_19 : Nat) (x3 : Int32) (x4 : Int32), f_X8_whoNow_M_L19 N k_19 x1 x2 I A n_19 x3 x4 = some res → g_At (dC, dI) p l e (headSpec wsX8_whoNow rm_X8_whoNow_M).room s m args below meth c Q (wM a cy I A T) sz 5 (wM a cy I A T) [(0, .ref (a 0)), (1, .int x1), (2, .int x2), (3, .int x3), (4, .int x4)] 19 [] := by
          intro x1 x2 k_19 hk_19 n_19
          induction n_19 with
          | zero =>
            intro x3 x4 h
            exact absurd h (by rw [f_X8_whoNow_M_L19]; exact fun q => by cases q)
          | succ n_19 ih19 =>
            intro x3 x4 h H locs hP hD hS ls hl
            rw [f_X8_whoNow_M_L19] at h
            refine lv_iload hx hb dX8_whoNow_19 (lv_at hl 4 rfl) ?_
            refine lv_aload_n hx hb dX8_whoNow_21 rfl (lv_at hl 0 rfl) ?_
            refine va_get (D := (dC, dI)) (ci := 8) (v := .int (I 2)) (C := RX8) (T := TX8) (N := 19) hx hb hts inX8_whoNow_X8 hown hK hP 0 (eM_0 a cy I A T) rfl 11 (by decide) (hts _ mX8_whoNow_1) (fun _ h9 => h9) rfl dX8_whoNow_22 ?_
            refine lv_icmp_ge (tgt := 72) hx hb dX8_whoNow_25 (by decide) (fun c3 => ?_) (fun c3 => ?_)
            · replace h := ite_t h c3
              exact hk_19 _ _ h _ _ hP hD hS _ (lv_sub hl [0, 1, 2, 3] rfl)
            · replace h := ite_f h c3
              refine lv_iload_n hx hb dX8_whoNow_28 rfl (lv_at hl 3 rfl) ?_
              refine lv_if_eq (tgt := 64) hx hb dX8_whoNow_29 (by decide) (fun c4 => ?_) (fun c4 => ?_)
              · replace h := ite_t h c4
                refine lv_iconst (v := 0) hx hb dX8_whoNow_64 (by decide) ?_
                refine lv_istore_n (lv' := [(3, .int 0), (0, .ref (a 0)), (1, .int x1), (2, .int x2), (4, .int x4)]) hx hb dX8_whoNow_65 rfl hl (by decide) rfl (fun ls hl => ?_)
                refine lv_iinc (v := (x4 + 1)) (lv' := [(4, .int (x4 + 1)), (3, .int 0), (0, .ref (a 0)), (1, .int x1), (2, .int x2)]) hx hb dX8_whoNow_66 hl (k := 4) rfl rfl (by decide) rfl (fun ls hl => ?_)
                refine lv_goto (tgt := 19) hx hb dX8_whoNow_69 (by decide) ?_
                exact ih19 _ _ h _ _ hP hD hS _ (lv_sub hl [2, 3, 4, 1, 0] rfl)
              · replace h := ite_f h c4
                refine lv_aload_n hx hb dX8_whoNow_32 rfl (lv_at hl 0 rfl) ?_
                refine lv_iload_n hx hb dX8_whoNow_33 rfl (lv_at hl 2 rfl) ?_
                refine lv_aload_n hx hb dX8_whoNow_34 rfl (lv_at hl 0 rfl) ?_
                refine va_get (D := (dC, dI)) (ci := 8) (v := .ref (a 8)) (C := RX8) (T := TX8) (N := 19) hx hb hts inX8_whoNow_X8 hown hK hP 0 (eM_0 a cy I A T) rfl 10 (by decide) (hts _ mX8_whoNow_2) (fun _ h9 => h9) rfl dX8_whoNow_35 ?_
                refine lv_iconst (v := 2) hx hb dX8_whoNow_38 (by decide) ?_
                refine lv_iload hx hb dX8_whoNow_39 (lv_at hl 4 rfl) ?_
                refine lv_imul hx hb dX8_whoNow_41 ?_
                obtain ⟨i5, h⟩ := inb_some h
                refine g_iald (f := (A 7)) (j := ((2 * x4)).toNatClampNeg) hx hb hK hP 8 (eM_8 a cy I A T) i5 rfl dX8_whoNow_42 ?_
                obtain ⟨r6, hr6, h⟩ := bnd_some h
                refine g_callVi (As := [.int x2, .int ((A 7) ((2 * x4)).toNatClampNeg)]) (rest := []) (ci := 8) (q0 := 0) hx hb hml hown hts (c_X8_soundIn_M l dC dI a cy N I A T x2 ((A 7) ((2 * x4)).toNatClampNeg) r6 hr6) (cwV 2 hts gX8_whoNow_X8_soundIn rfl rfl rfl (by decide +kernel) ⟨Nat.le_of_ble_eq_true rfl, Nat.le_of_ble_eq_true rfl⟩) hK hP hD hS hA rfl (eM_0 a cy I A T) rfl rfl hl.1 rfl (Nat.le_of_ble_eq_true rfl) dX8_whoNow_43 (fun H locs hP hD hS => ?_)
                refine lv_aload_n hx hb dX8_whoNow_46 rfl (lv_at hl 0 rfl) ?_
                refine va_get (D := (dC, dI)) (ci := 8) (v := .ref (a 8)) (C := RX8) (T := TX8) (N := 19) hx hb hts inX8_whoNow_X8 hown hK hP 0 (eM_0 a cy I A T) rfl 10 (by decide) (hts _ mX8_whoNow_2) (fun _ h9 => h9) rfl dX8_whoNow_47 ?_
                refine lv_iconst (v := 2) hx hb dX8_whoNow_50 (by decide) ?_
                refine lv_iload hx hb dX8_whoNow_51 (lv_at hl 4 rfl) ?_
                refine lv_imul hx hb dX8_whoNow_53 ?_
                refine lv_iconst (v := 1) hx hb dX8_whoNow_54 (by decide) ?_
                refine lv_iadd hx hb dX8_whoNow_55 ?_
                obtain ⟨i7, h⟩ := inb_some h
                refine g_iald (f := (A 7)) (j := (((2 * x4) + 1)).toNatClampNeg) hx hb hK hP 8 (eM_8 a cy I A T) i7 rfl dX8_whoNow_56 ?_
                refine lv_icmp_ne (tgt := 64) hx hb dX8_whoNow_57 (by decide) (fun c8 => ?_) (fun c8 => ?_)
                · replace h := ite_f h c8
                  refine lv_iconst (v := 0) hx hb dX8_whoNow_64 (by decide) ?_
                  refine lv_istore_n (lv' := [(3, .int 0), (0, .ref (a 0)), (1, .int x1), (2, .int x2), (4, .int x4)]) hx hb dX8_whoNow_65 rfl hl (by decide) rfl (fun ls hl => ?_)
                  refine lv_iinc (v := (x4 + 1)) (lv' := [(4, .int (x4 + 1)), (3, .int 0), (0, .ref (a 0)), (1, .int x1), (2, .int x2)]) hx hb dX8_whoNow_66 hl (k := 4) rfl rfl (by decide) rfl (fun ls hl => ?_)
                  refine lv_goto (tgt := 19) hx hb dX8_whoNow_69 (by decide) ?_
                  exact ih19 _ _ h _ _ hP hD hS _ (lv_sub hl [2, 3, 4, 1, 0] rfl)
                · replace h := ite_t h c8
                  refine lv_iconst (v := 1) hx hb dX8_whoNow_60 (by decide) ?_
                  refine lv_goto (tgt := 65) hx hb dX8_whoNow_61 (by decide) ?_
                  refine lv_istore_n (lv' := [(3, .int 1), (0, .ref (a 0)), (1, .int x1), (2, .int x2), (4, .int x4)]) hx hb dX8_whoNow_65 rfl hl (by decide) rfl (fun ls hl => ?_)
                  refine lv_iinc (v := (x4 + 1)) (lv' := [(4, .int (x4 + 1)), (3, .int 1), (0, .ref (a 0)), (1, .int x1), (2, .int x2)]) hx hb dX8_whoNow_66 hl (k := 4) rfl rfl (by decide) rfl (fun ls hl => ?_)
                  refine lv_goto (tgt := 19) hx hb dX8_whoNow_69 (by decide) ?_
                  exact ih19 _ _ h _ _ hP hD hS _ (lv_sub hl [2, 3, 4, 1, 0] rfl)
        refine lp19 _ _ _ ?_ N _ _ h _ _ hP hD hS _ (lv_sub hl [2, 3, 4, 1, 0] rfl)
        intro x3 x4 h H locs hP hD hS ls hl
        refine lv_iload_n hx hb dX8_whoNow_72 rfl (lv_at hl 1 rfl) ?_
        refine lv_iload_n hx hb dX8_whoNow_73 rfl (lv_at hl 3 rfl) ?_
        refine lv_if_eq (tgt := 83) hx hb dX8_whoNow_74 (by decide) (fun c2 => ?_) (fun c2 => ?_)
        · replace h := ite_t h c2
          refine lv_iconst (v := 0) hx hb dX8_whoNow_83 (by decide) ?_
          refine lv_ior hx hb dX8_whoNow_84 ?_
          refine lv_istore_n (lv' := [(1, .int (x1 ||| 0)), (0, .ref (a 0)), (2, .int x2), (3, .int x3)]) hx hb dX8_whoNow_85 rfl hl (by decide) rfl (fun ls hl => ?_)
          refine lv_iinc (v := (x2 + 1)) (lv' := [(2, .int (x2 + 1)), (1, .int (x1 ||| 0)), (0, .ref (a 0)), (3, .int x3)]) hx hb dX8_whoNow_86 hl (k := 2) rfl rfl (by decide) rfl (fun ls hl => ?_)
          refine lv_goto (tgt := 4) hx hb dX8_whoNow_89 (by decide) ?_
          exact ih4 _ _ h _ _ hP hD hS _ (lv_sub hl [2, 1, 0] rfl)
        · replace h := ite_f h c2
          refine lv_iconst (v := 1) hx hb dX8_whoNow_77 (by decide) ?_
          refine lv_iload_n hx hb dX8_whoNow_78 rfl (lv_at hl 2 rfl) ?_
          refine lv_ishl hx hb dX8_whoNow_79 ?_
          refine lv_goto (tgt := 84) hx hb dX8_whoNow_80 (by decide) ?_
          refine lv_ior hx hb dX8_whoNow_84 ?_
          refine lv_istore_n (lv' := [(1, .int (x1 ||| ((1 : Int32) <<< (x2 &&& 31)))), (0, .ref (a 0)), (2, .int x2), (3, .int x3)]) hx hb dX8_whoNow_85 rfl hl (by decide) rfl (fun ls hl => ?_)
          refine lv_iinc (v := (x2 + 1)) (lv' := [(2, .int (x2 + 1)), (1, .int (x1 ||| ((1 : Int32) <<< (x2 &&& 31)))), (0, .ref (a 0)), (3, .int x3)]) hx hb dX8_whoNow_86 hl (k := 2) rfl rfl (by decide) rfl (fun ls hl => ?_)
          refine lv_goto (tgt := 4) hx hb dX8_whoNow_89 (by decide) ?_
          exact ih4 _ _ h _ _ hP hD hS _ (lv_sub hl [2, 1, 0] rfl)
  refine lp4  _ ?_ N _ _ h _ _ hP hD hS _ (lv_sub hl [2, 1, 0] rfl)
  intro x1 x2 h H locs hP hD hS ls hl
  refine lv_iload_n hx hb dX8_whoNow_92 rfl (lv_at hl 0 rfl) ?_
  obtain rfl := Option.some.inj h
  exact g_iret hx hb hr hK hP hD hS hQ dX8_whoNow_93
def rm_X8_who_M : Room := { frames := 9, cells := 0, slots := 0, locals := 390 }
def f_X8_who_M (N : Nat) (I : Nat → Int32) (A : Nat → Nat → Int32)  : Option (Int32) := (Option.bind (f_X8_whoNow_M N I A) (fun r1 => some r1))
set_option maxHeartbeats 4000000 in
set_option maxRecDepth 100000 in
theorem c_X8_who_M (l : Launch) (dC : Nat → ClassId) (dI : Nat → Nat → Nat) (a : Nat → Nat) (cy : Nat → ClassId) (N : Nat) (I : Nat → Int32) (A : Nat → Nat → Int32) (T : Int64)  (res : Int32) (h : f_X8_who_M N I A  = some res) (sz : Nat) : Met l yX8_who wsX8_who rm_X8_who_M (g_Pre (dC, dI) cy [.ref (a 0)] (wM a cy I A T) sz) (g_Qi (dC, dI) cy res (wM a cy I A T) (wM a cy I A T) sz) 0 0 (va_A (wM a cy I A T) sz) := by
  unfold f_X8_who_M at h
  refine g_entry _ _ _ _ _ _ (cc := cX8_who) (maxL := 1) (ret := (some .int)) (by decide) rfl (Nat.le_of_ble_eq_true rfl) ?_
  intro p e s m args below meth c ls hx hb hml hown hts hr hlocks hA hK hP hD hS hl Q hQ
  have hl : lv_has ls 1 [(0, .ref (a 0))] := hl
  have hown : s.vm.findClass RX8 = some m.cls := hown
  refine lv_aload_n hx hb dX8_who_0 rfl (lv_at hl 0 rfl) ?_
  obtain ⟨r1, hr1, h⟩ := bnd_some h
  refine g_callVi (As := []) (rest := []) (ci := 8) (q0 := 0) hx hb hml hown hts (c_X8_whoNow_M l dC dI a cy N I A T r1 hr1) (cwV 0 hts gX8_who_X8_whoNow rfl rfl rfl (by decide +kernel) ⟨Nat.le_of_ble_eq_true rfl, Nat.le_of_ble_eq_true rfl⟩) hK hP hD hS hA rfl (eM_0 a cy I A T) rfl rfl hl.1 rfl (Nat.le_of_ble_eq_true rfl) dX8_who_1 (fun H locs hP hD hS => ?_)
  obtain rfl := Option.some.inj h
  exact g_iret hx hb hr hK hP hD hS hQ dX8_who_4
