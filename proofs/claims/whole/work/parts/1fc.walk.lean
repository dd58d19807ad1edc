theorem inX2_mostFrom_X3 : ∀ w ∈ u_ws RX3 TX3 6, w ∈ wsX2_mostFrom := by decide +kernel
theorem mX2_mostFrom_0 : Cond.fieldLink RX2 36 "WarmBottles$Night" "told" "LWarmBottles$Told;" ∈ wsX2_mostFrom := List.mem_of_getElem? (i := 1) rfl
theorem inX2_mostFrom_X6 : ∀ w ∈ u_ws RX6 TX6 6, w ∈ wsX2_mostFrom := by decide +kernel
theorem mX2_mostFrom_1 : Cond.fieldLink RX2 40 "WarmBottles$Told" "bottles" "I" ∈ wsX2_mostFrom := List.mem_of_getElem? (i := 2) rfl
theorem mX2_mostFrom_2 : Cond.methodLink RX2 59 Lib.Math.max.name ∈ wsX2_mostFrom := List.mem_of_getElem? (i := 3) rfl
theorem mX2_mostFrom_3 : Cond.static Lib.Math.max.name ∈ wsX2_mostFrom := List.mem_of_getElem? (i := 4) rfl
theorem mX2_mostFrom_4 : Cond.initialized "java/lang/Math" ∈ wsX2_mostFrom := List.mem_of_getElem? (i := 5) rfl
theorem mX2_mostFrom_5 : Cond.code Lib.Math.max.name Lib.Math.max.code 2 (some .int) ∈ wsX2_mostFrom := List.mem_of_getElem? (i := 6) rfl
def f_X2_mostFrom_C_L21 (N : Nat) (mf : (Nat → Int32) → (Nat → Nat → Int32) → Int32 → Int32 → Option (Int32 × (Nat → Nat → Int32))) (k_21 : Int32 → Int32 → (Nat → Nat → Int32) → Option (Int32 × (Nat → Nat → Int32))) (x2 : Int32) (x3 : Int32) (I : (Nat → Int32)) : Nat → Int32 → Int32 → (Nat → Nat → Int32) → Option (Int32 × (Nat → Nat → Int32))
  | 0, _, _, _ => none
  | n_21 + 1, x4, x5, A_21 => (if (I 13) ≤ x5 then (k_21 x4 x5 A_21) else (if 4 ≤ x4 then (k_21 x4 x5 A_21) else (Option.bind (f_X2_mostByFilling_C N mf I A_21 x5 x2 x3) (fun r5 => (f_X2_mostFrom_C_L21 N mf k_21 x2 x3 I n_21 (iMax x4 r5.1) (x5 + 1) r5.2)))))
def f_X2_mostFrom_C (N : Nat) : Nat → (Nat → Int32) → (Nat → Nat → Int32) → Int32 → Int32 → Option (Int32 × (Nat → Nat → Int32))
  | 0, _, _, _, _ => none
  | d + 1, I, A, p2, p3 => (if p2 < 4 then (Option.bind (f_X2_mostByFilling_C N (f_X2_mostFrom_C N d) I A 6 p2 p3) (fun r2 => (f_X2_mostFrom_C_L21 N (f_X2_mostFrom_C N d) (fun (x4 : Int32) (x5 : Int32) (A_21 : (Nat → Nat → Int32)) => some (x4, A_21)) p2 p3 I N r2.1 0 r2.2))) else some (4, A))
set_option maxHeartbeats 4000000 in
set_option maxRecDepth 100000 in
theorem c_X2_mostFrom_C (l : Launch) (dC : Nat → ClassId) (dI : Nat → Nat → Nat) (a : Nat → Nat) (cy : Nat → ClassId) (N : Nat) : ∀ (d : Nat) (I : Nat → Int32) (A : Nat → Nat → Int32) (T : Int64) (p2 : Int32) (p3 : Int32) (res : Int32 × (Nat → Nat → Int32)), f_X2_mostFrom_C N d I A p2 p3 = some res → ∀ sz : Nat, Met l yX2_mostFrom wsX2_mostFrom (rm_X2_mostFrom_C d) (g_Pre (dC, dI) cy [.ref (a 23), .ref (a 7), .int p2, .int p3] (wC a cy I A T) sz) (g_Qi (dC, dI) cy res.1 (wC a cy I A T) (wC a cy I res.2 T) sz) 0 0 (va_A (wC a cy I A T) sz) := by
  intro d
  induction d with
  | zero =>
    intro I A T p2 p3 res h
    exact absurd h (by rw [f_X2_mostFrom_C]; exact fun q => by cases q)
  | succ d ihd =>
    intro I A T p2 p3 res h sz
    rw [f_X2_mostFrom_C] at h
    refine g_entry _ _ _ _ _ _ (cc := cX2_mostFrom) (maxL := 6) (ret := (some .int)) (by decide) rfl (Nat.le_of_ble_eq_true rfl) ?_
    intro p e s m args below meth c ls hx hb hml hown hts hr hlocks hA hK hP hD hS hl Q hQ
    have hl : lv_has ls 6 [(0, .ref (a 23)), (1, .ref (a 7)), (2, .int p2), (3, .int p3)] := hl
    have hown : s.vm.findClass RX2 = some m.cls := hown
    refine lv_iload_n hx hb dX2_mostFrom_0 rfl (lv_at hl 2 rfl) ?_
    refine lv_iconst (v := 4) hx hb dX2_mostFrom_1 (by decide) ?_
    refine lv_icmp_lt (tgt := 7) hx hb dX2_mostFrom_2 (by decide) (fun c1 => ?_) (fun c1 => ?_)
    · replace h := ite_t h c1
      refine lv_aload_n hx hb dX2_mostFrom_7 rfl (lv_at hl 0 rfl) ?_
      refine lv_aload_n hx hb dX2_mostFrom_8 rfl (lv_at hl 1 rfl) ?_
      refine lv_bipush (v := 6) hx hb dX2_mostFrom_9 (by decide) ?_
      refine lv_iload_n hx hb dX2_mostFrom_11 rfl (lv_at hl 2 rfl) ?_
      refine lv_iload_n hx hb dX2_mostFrom_12 rfl (lv_at hl 3 rfl) ?_
      obtain ⟨r2, hr2, h⟩ := bnd_some h
      refine g_callVi (As := [.ref (a 7), .int 6, .int p2, .int p3]) (rest := []) (ci := 2) (q0 := 23) hx hb hml hown hts (c_X2_mostByFilling_C l dC dI a cy N (f_X2_mostFrom_C N d) d (fun I A T p1 p2 res h => ihd I A T p1 p2 res h) I A T 6 p2 p3 r2 hr2) (cwV 4 hts gX2_mostFrom_X2_mostByFilling rfl rfl rfl (by decide +kernel) ⟨by show _ + 1 ≤ _; simp only [rm_X2_mostByFilling_C, rm_X2_mostFrom_C, headSpec]; omega, by show 8 + (_ + 11) + _ ≤ _; simp only [rm_X2_mostByFilling_C, rm_X2_mostFrom_C, headSpec]; omega⟩) hK hP hD hS hA rfl (eC_23 a cy I A T) rfl rfl hl.1 rfl (Nat.le_of_ble_eq_true rfl) dX2_mostFrom_13 (fun H locs hP hD hS => ?_)
      refine lv_istore (lv' := [(4, .int r2.1), (0, .ref (a 23)), (1, .ref (a 7)), (2, .int p2), (3, .int p3)]) hx hb dX2_mostFrom_16 hl (by decide) rfl (fun ls hl => ?_)
      refine lv_iconst (v := 0) hx hb dX2_mostFrom_18 (by decide) ?_
      refine lv_istore (lv' := [(5, .int 0), (4, .int r2.1), (0, .ref (a 23)), (1, .ref (a 7)), (2, .int p2), (3, .int p3)]) hx hb dX2_mostFrom_19 hl (by decide) rfl (fun ls hl => ?_)
      have lp21 : ∀ (x2 : Int32) (x3 : Int32) (k_21 : Int32 → Int32 → (Nat → Nat → Int32) → Option (Int32 × (Nat → Nat → Int32))), (∀ (x4 : Int32) (x5 : Int32) (A_21 : (Nat → Nat → Int32)), k_21 x4 x5 A_21 = some res → g_At (dC, dI) p l e (headSpec wsX2_mostFrom (rm_X2_mostFrom_C (d + 1))).room s m args below meth c Q (wC a cy I A T) sz 6 (wC a cy I A_21 T) [(4, .int x4)] 61 []) → ∀ (n_21 : Nat) (x4 : Int32) (x5 : Int32) (A_21 : (Nat → Nat → Int32)), f_X2_mostFrom_C_L21 N (f_X2_mostFrom_C N d) k_21 x2 x3 I n_21 x4 x5 A_21 = some res → g_At (dC, dI) p l e (headSpec wsX2_mostFrom (rm_X2_mostFrom_C (d + 1))).room s m args below meth c Q (wC a cy I A T) sz 6 (wC a cy I A_21 T) [(0, .ref (a 23)), (1, .ref (a 7)), (2, .int x2), (3, .int x3), (4, .int x4), (5, .int x5)] 21 [] := by
        intro x2 x3 k_21 hk_21 n_21
        induction n_21 with
        | zero =>
          intro x4 x5 A_21 h
          exact absurd h (by rw [f_X2_mostFrom_C_L21]; exact fun q => by cases q)
        | succ n_21 ih21 =>
          intro x4 x5 A_21 h H locs hP hD hS ls hl
          rw [f_X2_mostFrom_C_L21] at h
          refine lv_iload hx hb dX2_mostFrom_21 (lv_at hl 5 rfl) ?_
          refine lv_aload_n hx hb dX2_mostFrom_23 rfl (lv_at hl 1 rfl) ?_
          refine va_get (D := (dC, dI)) (ci := 3) (v := .ref (a 8)) (C := RX3) (T := TX3) (N := 6) hx hb hts inX2_mostFrom_X3 hown hK hP 7 (eC_7 a cy I A_21 T) rfl 0 (by decide) (hts _ mX2_mostFrom_0) (fun _ h9 => h9) rfl dX2_mostFrom_24 ?_
          refine va_get (D := (dC, dI)) (ci := 6) (v := .int (I 13)) (C := RX6) (T := TX6) (N := 6) hx hb hts inX2_mostFrom_X6 hown hK hP 8 (eC_8 a cy I A_21 T) rfl 3 (by decide) (hts _ mX2_mostFrom_1) (fun _ h9 => h9) rfl dX2_mostFrom_27 ?_
          refine lv_icmp_ge (tgt := 61) hx hb dX2_mostFrom_30 (by decide) (fun c3 => ?_) (fun c3 => ?_)
          · replace h := ite_t h c3
            exact hk_21 _ _ _ h _ _ hP hD hS _ (lv_sub hl [4] rfl)
          · replace h := ite_f h c3
            refine lv_iload hx hb dX2_mostFrom_33 (lv_at hl 4 rfl) ?_
            refine lv_iconst (v := 4) hx hb dX2_mostFrom_35 (by decide) ?_
            refine lv_icmp_ge (tgt := 61) hx hb dX2_mostFrom_36 (by decide) (fun c4 => ?_) (fun c4 => ?_)
            · replace h := ite_t h c4
              exact hk_21 _ _ _ h _ _ hP hD hS _ (lv_sub hl [4] rfl)
            · replace h := ite_f h c4
              refine lv_iload hx hb dX2_mostFrom_39 (lv_at hl 4 rfl) ?_
              refine lv_aload_n hx hb dX2_mostFrom_41 rfl (lv_at hl 0 rfl) ?_
              refine lv_aload_n hx hb dX2_mostFrom_42 rfl (lv_at hl 1 rfl) ?_
              refine lv_iload hx hb dX2_mostFrom_43 (lv_at hl 5 rfl) ?_
              refine lv_iload_n hx hb dX2_mostFrom_45 rfl (lv_at hl 2 rfl) ?_
              refine lv_iload_n hx hb dX2_mostFrom_46 rfl (lv_at hl 3 rfl) ?_
              obtain ⟨r5, hr5, h⟩ := bnd_some h
              refine g_callVi (As := [.ref (a 7), .int x5, .int x2, .int x3]) (rest := [.int x4]) (ci := 2) (q0 := 23) hx hb hml hown hts (c_X2_mostByFilling_C l dC dI a cy N (f_X2_mostFrom_C N d) d (fun I A T p1 p2 res h => ihd I A T p1 p2 res h) I A_21 T x5 x2 x3 r5 hr5) (cwV 4 hts gX2_mostFrom_X2_mostByFilling rfl rfl rfl (by decide +kernel) ⟨by show _ + 1 ≤ _; simp only [rm_X2_mostByFilling_C, rm_X2_mostFrom_C, headSpec]; omega, by show 8 + (_ + 11) + _ ≤ _; simp only [rm_X2_mostByFilling_C, rm_X2_mostFrom_C, headSpec]; omega⟩) hK hP hD hS hA rfl (eC_23 a cy I A_21 T) rfl rfl hl.1 rfl (Nat.le_of_ble_eq_true rfl) dX2_mostFrom_47 (fun H locs hP hD hS => ?_)
              refine g_mmax hx hb (hml.trans hl.1.symm) hown (hts _ mX2_mostFrom_2) (hts _ mX2_mostFrom_3) (hts _ mX2_mostFrom_4) (hts _ mX2_mostFrom_5) (Nat.le_of_ble_eq_true rfl) (Nat.le_of_ble_eq_true rfl) (Nat.zero_le _) (Nat.zero_le _) dX2_mostFrom_50 ?_
              refine lv_istore (lv' := [(4, .int (iMax x4 r5.1)), (0, .ref (a 23)), (1, .ref (a 7)), (2, .int x2), (3, .int x3), (5, .int x5)]) hx hb dX2_mostFrom_53 hl (by decide) rfl (fun ls hl => ?_)
              refine lv_iinc (v := (x5 + 1)) (lv' := [(5, .int (x5 + 1)), (4, .int (iMax x4 r5.1)), (0, .ref (a 23)), (1, .ref (a 7)), (2, .int x2), (3, .int x3)]) hx hb dX2_mostFrom_55 hl (k := 5) rfl rfl (by decide) rfl (fun ls hl => ?_)
              refine lv_goto (tgt := 21) hx hb dX2_mostFrom_58 (by decide) ?_
              exact ih21 _ _ _ h _ _ hP hD hS _ (lv_sub hl [2, 3, 4, 5, 1, 0] rfl)
      refine lp21 _ _ _ ?_ N _ _ _ h _ _ hP hD hS _ (lv_sub hl [2, 3, 4, 5, 1, 0] rfl)
      intro x4 x5 A_21 h H locs hP hD hS ls hl
      refine lv_iload hx hb dX2_mostFrom_61 (lv_at hl 0 rfl) ?_
      obtain rfl := Option.some.inj h
      exact g_iret hx hb hr hK hP hD hS hQ dX2_mostFrom_63
    · replace h := ite_f h c1
      refine lv_iconst (v := 4) hx hb dX2_mostFrom_5 (by decide) ?_
      obtain rfl := Option.some.inj h
      exact g_iret hx hb hr hK hP hD hS hQ dX2_mostFrom_6
