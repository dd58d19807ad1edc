theorem inX2_mostFrom_X2 : ∀ w ∈ u_ws RX2 TX2 3, w ∈ wsX2_mostFrom := by decide +kernel
theorem mX2_mostFrom_0 : Cond.fieldLink RX2 18 "WarmBottles$Keeping" "night" "LWarmBottles$Night;" ∈ wsX2_mostFrom := List.mem_of_getElem? (i := 1) rfl
theorem inX2_mostFrom_X3 : ∀ w ∈ u_ws RX3 TX3 6, w ∈ wsX2_mostFrom := by decide +kernel
theorem mX2_mostFrom_1 : Cond.fieldLink RX2 39 "WarmBottles$Night" "told" "LWarmBottles$Told;" ∈ wsX2_mostFrom := List.mem_of_getElem? (i := 2) rfl
theorem inX2_mostFrom_X6 : ∀ w ∈ u_ws RX6 TX6 6, w ∈ wsX2_mostFrom := by decide +kernel
theorem mX2_mostFrom_2 : Cond.fieldLink RX2 43 "WarmBottles$Told" "bottles" "I" ∈ wsX2_mostFrom := List.mem_of_getElem? (i := 3) rfl
theorem mX2_mostFrom_3 : Cond.methodLink RX2 62 Lib.Math.max.name ∈ wsX2_mostFrom := List.mem_of_getElem? (i := 4) rfl
theorem mX2_mostFrom_4 : Cond.static Lib.Math.max.name ∈ wsX2_mostFrom := List.mem_of_getElem? (i := 5) rfl
theorem mX2_mostFrom_5 : Cond.initialized "java/lang/Math" ∈ wsX2_mostFrom := List.mem_of_getElem? (i := 6) rfl
theorem mX2_mostFrom_6 : Cond.code Lib.Math.max.name Lib.Math.max.code 2 (some .int) ∈ wsX2_mostFrom := List.mem_of_getElem? (i := 7) rfl
def f_X2_mostFrom_C_L19 (N : Nat) (mf : (Nat → Int32) → (Nat → Nat → Int32) → Int32 → Int32 → Option (Int32 × (Nat → Nat → Int32))) (k_19 : Int32 → Int32 → (Nat → Nat → Int32) → Option (Int32 × (Nat → Nat → Int32))) (x1 : Int32) (x2 : Int32) (I : (Nat → Int32)) : Nat → Int32 → Int32 → (Nat → Nat → Int32) → Option (Int32 × (Nat → Nat → Int32))
  | 0, _, _, _ => none
  | n_19 + 1, x3, x4, A_19 => (if (I 13) ≤ x4 then (k_19 x3 x4 A_19) else (if 4 ≤ x3 then (k_19 x3 x4 A_19) else (Option.bind (f_X2_mostByFilling_C N mf I A_19 x4 x1 x2) (fun r5 => (f_X2_mostFrom_C_L19 N mf k_19 x1 x2 I n_19 (iMax x3 r5.1) (x4 + 1) r5.2)))))
def f_X2_mostFrom_C (N : Nat) : Nat → (Nat → Int32) → (Nat → Nat → Int32) → Int32 → Int32 → Option (Int32 × (Nat → Nat → Int32))
  | 0, _, _, _, _ => none
  | d + 1, I, A, p1, p2 => (if p1 < 4 then (Option.bind (f_X2_mostByFilling_C N (f_X2_mostFrom_C N d) I A 6 p1 p2) (fun r2 => (f_X2_mostFrom_C_L19 N (f_X2_mostFrom_C N d) (fun (x3 : Int32) (x4 : Int32) (A_19 : (Nat → Nat → Int32)) => some (x3, A_19)) p1 p2 I N r2.1 0 r2.2))) else some (4, A))
set_option maxHeartbeats 4000000 in
set_option maxRecDepth 100000 in
theorem c_X2_mostFrom_C (l : Launch) (dC : Nat → ClassId) (dI : Nat → Nat → Nat) (a : Nat → Nat) (cy : Nat → ClassId) (N : Nat) : ∀ (d : Nat) (I : Nat → Int32) (A : Nat → Nat → Int32) (T : Int64) (p1 : Int32) (p2 : Int32) (res : Int32 × (Nat → Nat → Int32)), f_X2_mostFrom_C N d I A p1 p2 = some res → ∀ sz : Nat, Met l yX2_mostFrom wsX2_mostFrom (rm_X2_mostFrom_C d) (g_Pre (dC, dI) cy [.ref (a 23), .int p1, .int p2] (wC a cy I A T) sz) (g_Qi (dC, dI) cy res.1 (wC a cy I A T) (wC a cy I res.2 T) sz) 0 0 (va_A (wC a cy I A T) sz) := by
  intro d
  induction d with
  | zero =>
    intro I A T p1 p2 res h
    exact absurd h (by rw [f_X2_mostFrom_C]; exact fun q => by cases q)
  | succ d ihd =>
    intro I A T p1 p2 res h sz
    rw [f_X2_mostFrom_C] at h
    refine g_entry _ _ _ _ _ _ (cc := cX2_mostFrom) (maxL := 5) (ret := (some .int)) (by decide) rfl (Nat.le_of_ble_eq_true rfl) ?_
    intro p e s m args below meth c ls hx hb hml hown hts hr hlocks hA hK hP hD hS hl Q hQ
    have hl : lv_has ls 5 [(0, .ref (a 23)), (1, .int p1), (2, .int p2)] := hl
    have hown : s.vm.findClass RX2 = some m.cls := hown
    refine lv_iload_n hx hb dX2_mostFrom_0 rfl (lv_at hl 1 rfl) ?_
    refine lv_iconst (v := 4) hx hb dX2_mostFrom_1 (by decide) ?_
    refine lv_icmp_lt (tgt := 7) hx hb dX2_mostFrom_2 (by decide) (fun c1 => ?_) (fun c1 => ?_)
    · replace h := ite_t h c1
      refine lv_aload_n hx hb dX2_mostFrom_7 rfl (lv_at hl 0 rfl) ?_
      refine lv_bipush (v := 6) hx hb dX2_mostFrom_8 (by decide) ?_
      refine lv_iload_n hx hb dX2_mostFrom_10 rfl (lv_at hl 1 rfl) ?_
      refine lv_iload_n hx hb dX2_mostFrom_11 rfl (lv_at hl 2 rfl) ?_
      obtain ⟨r2, hr2, h⟩ := bnd_some h
      refine g_callVi (As := [.int 6, .int p1, .int p2]) (rest := []) (ci := 2) (q0 := 23) hx hb hml hown hts (c_X2_mostByFilling_C l dC dI a cy N (f_X2_mostFrom_C N d) d (fun I A T p1 p2 res h => ihd I A T p1 p2 res h) I A T 6 p1 p2 r2 hr2) (cwV 3 hts gX2_mostFrom_X2_mostByFilling rfl rfl rfl (by decide +kernel) ⟨by show _ + 1 ≤ _; simp only [rm_X2_mostByFilling_C, rm_X2_mostFrom_C, headSpec]; omega, by show 8 + (_ + 11) + _ ≤ _; simp only [rm_X2_mostByFilling_C, rm_X2_mostFrom_C, headSpec]; omega⟩) hK hP hD hS hA rfl (eC_23 a cy I A T) rfl rfl hl.1 rfl (Nat.le_of_ble_eq_true rfl) dX2_mostFrom_12 (fun H locs hP hD hS => ?_)
      refine lv_istore_n (lv' := [(3, .int r2.1), (0, .ref (a 23)), (1, .int p1), (2, .int p2)]) hx hb dX2_mostFrom_15 rfl hl (by decide) rfl (fun ls hl => ?_)
      refine lv_iconst (v := 0) hx hb dX2_mostFrom_16 (by decide) ?_
      refine lv_istore (lv' := [(4, .int 0), (3, .int r2.1), (0, .ref (a 23)), (1, .int p1), (2, .int p2)]) hx hb dX2_mostFrom_17 hl (by decide) rfl (fun ls hl => ?_)
      have lp19 : ∀ (x1 : Int32) (x2 : Int32) (k_19 : Int32 → Int32 → (Nat → Nat → Int32) → Option (Int32 × (Nat → Nat → Int32))), (∀ (x3 : Int32) (x4 : Int32) (A_19 : (Nat → Nat → Int32)), k_19 x3 x4 A_19 = some res → g_At (dC, dI) p l e (headSpec wsX2_mostFrom (rm_X2_mostFrom_C (d + 1))).room s m args below meth c Q (wC a cy I A T) sz 5 (wC a cy I A_19 T) [(3, .int x3)] 58 []) → ∀ (n_19 : Nat) (x3 : Int32) (x4 : Int32) (A_19 : (Nat → Nat → Int32)), f_X2_mostFrom_C_L19 N (f_X2_mostFrom_C N d) k_19 x1 x2 I n_19 x3 x4 A_19 = some res → g_At (dC, dI) p l e (headSpec wsX2_mostFrom (rm_X2_mostFrom_C (d + 1))).room s m args below meth c Q (wC a cy I A T) sz 5 (wC a cy I A_19 T) [(0, .ref (a 23)), (1, .int x1), (2, .int x2), (3, .int x3), (4, .int x4)] 19 [] := by
        intro x1 x2 k_19 hk_19 n_19
        induction n_19 with
        | zero =>
          intro x3 x4 A_19 h
          exact absurd h (by rw [f_X2_mostFrom_C_L19]; exact fun q => by cases q)
        | succ n_19 ih19 =>
          intro x3 x4 A_19 h H locs hP hD hS ls hl
          rw [f_X2_mostFrom_C_L19] at h
          refine lv_iload hx hb dX2_mostFrom_19 (lv_at hl 4 rfl) ?_
          refine lv_aload_n hx hb dX2_mostFrom_21 rfl (lv_at hl 0 rfl) ?_
          refine va_get (D := (dC, dI)) (ci := 2) (v := .ref (a 7)) (C := RX2) (T := TX2) (N := 3) hx hb hts inX2_mostFrom_X2 hown hK hP 23 (eC_23 a cy I A_19 T) rfl 0 (by decide) (hts _ mX2_mostFrom_0) (fun _ h9 => h9) rfl dX2_mostFrom_22 ?_
          refine va_get (D := (dC, dI)) (ci := 3) (v := .ref (a 8)) (C := RX3) (T := TX3) (N := 6) hx hb hts inX2_mostFrom_X3 hown hK hP 7 (eC_7 a cy I A_19 T) rfl 0 (by decide) (hts _ mX2_mostFrom_1) (fun _ h9 => h9) rfl dX2_mostFrom_25 ?_
          refine va_get (D := (dC, dI)) (ci := 6) (v := .int (I 13)) (C := RX6) (T := TX6) (N := 6) hx hb hts inX2_mostFrom_X6 hown hK hP 8 (eC_8 a cy I A_19 T) rfl 3 (by decide) (hts _ mX2_mostFrom_2) (fun _ h9 => h9) rfl dX2_mostFrom_28 ?_
          refine lv_icmp_ge (tgt := 58) hx hb dX2_mostFrom_31 (by decide) (fun c3 => ?_) (fun c3 => ?_)
          · replace h := ite_t h c3
            exact hk_19 _ _ _ h _ _ hP hD hS _ (lv_sub hl [3] rfl)
          · replace h := ite_f h c3
            refine lv_iload_n hx hb dX2_mostFrom_34 rfl (lv_at hl 3 rfl) ?_
            refine lv_iconst (v := 4) hx hb dX2_mostFrom_35 (by decide) ?_
            refine lv_icmp_ge (tgt := 58) hx hb dX2_mostFrom_36 (by decide) (fun c4 => ?_) (fun c4 => ?_)
            · replace h := ite_t h c4
              exact hk_19 _ _ _ h _ _ hP hD hS _ (lv_sub hl [3] rfl)
            · replace h := ite_f h c4
              refine lv_iload_n hx hb dX2_mostFrom_39 rfl (lv_at hl 3 rfl) ?_
              refine lv_aload_n hx hb dX2_mostFrom_40 rfl (lv_at hl 0 rfl) ?_
              refine lv_iload hx hb dX2_mostFrom_41 (lv_at hl 4 rfl) ?_
              refine lv_iload_n hx hb dX2_mostFrom_43 rfl (lv_at hl 1 rfl) ?_
              refine lv_iload_n hx hb dX2_mostFrom_44 rfl (lv_at hl 2 rfl) ?_
              obtain ⟨r5, hr5, h⟩ := bnd_some h
              refine g_callVi (As := [.int x4, .int x1, .int x2]) (rest := [.int x3]) (ci := 2) (q0 := 23) hx hb hml hown hts (c_X2_mostByFilling_C l dC dI a cy N (f_X2_mostFrom_C N d) d (fun I A T p1 p2 res h => ihd I A T p1 p2 res h) I A_19 T x4 x1 x2 r5 hr5) (cwV 3 hts gX2_mostFrom_X2_mostByFilling rfl rfl rfl (by decide +kernel) ⟨by show _ + 1 ≤ _; simp only [rm_X2_mostByFilling_C, rm_X2_mostFrom_C, headSpec]; omega, by show 8 + (_ + 11) + _ ≤ _; simp only [rm_X2_mostByFilling_C, rm_X2_mostFrom_C, headSpec]; omega⟩) hK hP hD hS hA rfl (eC_23 a cy I A_19 T) rfl rfl hl.1 rfl (Nat.le_of_ble_eq_true rfl) dX2_mostFrom_45 (fun H locs hP hD hS => ?_)
              refine g_mmax hx hb (hml.trans hl.1.symm) hown (hts _ mX2_mostFrom_3) (hts _ mX2_mostFrom_4) (hts _ mX2_mostFrom_5) (hts _ mX2_mostFrom_6) (Nat.le_of_ble_eq_true rfl) (Nat.le_of_ble_eq_true rfl) (Nat.zero_le _) (Nat.zero_le _) dX2_mostFrom_48 ?_
              refine lv_istore_n (lv' := [(3, .int (iMax x3 r5.1)), (0, .ref (a 23)), (1, .int x1), (2, .int x2), (4, .int x4)]) hx hb dX2_mostFrom_51 rfl hl (by decide) rfl (fun ls hl => ?_)
              refine lv_iinc (v := (x4 + 1)) (lv' := [(4, .int (x4 + 1)), (3, .int (iMax x3 r5.1)), (0, .ref (a 23)), (1, .int x1), (2, .int x2)]) hx hb dX2_mostFrom_52 hl (k := 4) rfl rfl (by decide) rfl (fun ls hl => ?_)
              refine lv_goto (tgt := 19) hx hb dX2_mostFrom_55 (by decide) ?_
              exact ih19 _ _ _ h _ _ hP hD hS _ (lv_sub hl [2, 3, 4, 1, 0] rfl)
      refine lp19 _ _ _ ?_ N _ _ _ h _ _ hP hD hS _ (lv_sub hl [2, 3, 4, 1, 0] rfl)
      intro x3 x4 A_19 h H locs hP hD hS ls hl
      refine lv_iload_n hx hb dX2_mostFrom_58 rfl (lv_at hl 0 rfl) ?_
      obtain rfl := Option.some.inj h
      exact g_iret hx hb hr hK hP hD hS hQ dX2_mostFrom_59
    · replace h := ite_f h c1
      refine lv_iconst (v := 4) hx hb dX2_mostFrom_5 (by decide) ?_
      obtain rfl := Option.some.inj h
      exact g_iret hx hb hr hK hP hD hS hQ dX2_mostFrom_6
