theorem inX3_pintsOfAll_X3 : ∀ w ∈ u_ws RX3 TX3 6, w ∈ wsX3_pintsOfAll := by decide +kernel
theorem mX3_pintsOfAll_0 : Cond.fieldLink RX3 12 "WarmBottles$Night" "told" "LWarmBottles$Told;" ∈ wsX3_pintsOfAll := List.mem_of_getElem? (i := 1) rfl
theorem inX3_pintsOfAll_X6 : ∀ w ∈ u_ws RX6 TX6 6, w ∈ wsX3_pintsOfAll := by decide +kernel
theorem mX3_pintsOfAll_1 : Cond.fieldLink RX3 40 "WarmBottles$Told" "bottles" "I" ∈ wsX3_pintsOfAll := List.mem_of_getElem? (i := 2) rfl
def rm_X3_pintsOfAll_C : Room := { frames := 7, cells := 0, slots := 0, locals := 330 }
def f_X3_pintsOfAll_C_L4 (N : Nat) (k_4 : Int32 → Int32 → Option (Int32)) (x1 : Int32) (I : (Nat → Int32)) (A : (Nat → Nat → Int32)) : Nat → Int32 → Int32 → Option (Int32)
  | 0, _, _ => none
  | n_4 + 1, x2, x3 => (if (I 13) ≤ x3 then (k_4 x2 x3) else (Option.bind (f_X3_pintsOf_C N I A x3 x1) (fun r2 => (if r2 = (-9) then some (-9) else (f_X3_pintsOfAll_C_L4 N k_4 x1 I A n_4 (x2 + r2) (x3 + 1))))))
def f_X3_pintsOfAll_C (N : Nat) (I : Nat → Int32) (A : Nat → Nat → Int32) (p1 : Int32) : Option (Int32) := (f_X3_pintsOfAll_C_L4 N (fun (x2 : Int32) (x3 : Int32) => some x2) p1 I A N 0 0)
set_option maxHeartbeats 4000000 in
set_option maxRecDepth 100000 in
theorem c_X3_pintsOfAll_C (l : Launch) (dC : Nat → ClassId) (dI : Nat → Nat → Nat) (a : Nat → Nat) (cy : Nat → ClassId) (N : Nat) (I : Nat → Int32) (A : Nat → Nat → Int32) (T : Int64) (p1 : Int32) (res : Int32) (h : f_X3_pintsOfAll_C N I A p1 = some res) (sz : Nat) : Met l yX3_pintsOfAll wsX3_pintsOfAll rm_X3_pintsOfAll_C (g_Pre (dC, dI) cy [.ref (a 7), .int p1] (wC a cy I A T) sz) (g_Qi (dC, dI) cy res (wC a cy I A T) (wC a cy I A T) sz) 0 0 (va_A (wC a cy I A T) sz) := by
  unfold f_X3_pintsOfAll_C at h
  refine g_entry _ _ _ _ _ _ (cc := cX3_pintsOfAll) (maxL := 5) (ret := (some .int)) (by decide) rfl (Nat.le_of_ble_eq_true rfl) ?_
  intro p e s m args below meth c ls hx hb hml hown hts hr hlocks hA hK hP hD hS hl Q hQ
  have hl : lv_has ls 5 [(0, .ref (a 7)), (1, .int p1)] := hl
  have hown : s.vm.findClass RX3 = some m.cls := hown
  refine lv_iconst (v := 0) hx hb dX3_pintsOfAll_0 (by decide) ?_
  refine lv_istore_n (lv' := [(2, .int 0), (0, .ref (a 7)), (1, .int p1)]) hx hb dX3_pintsOfAll_1 rfl hl (by decide) rfl (fun ls hl => ?_)
  refine lv_iconst (v := 0) hx hb dX3_pintsOfAll_2 (by decide) ?_
  refine lv_istore_n (lv' := [(3, .int 0), (2, .int 0), (0, .ref (a 7)), (1, .int p1)]) hx hb dX3_pintsOfAll_3 rfl hl (by decide) rfl (fun ls hl => ?_)
  have lp4 : ∀ (x1 : Int32) (k_4 : Int32 → Int32 → Option (Int32)), (∀ (x2 : Int32) (x3 : Int32), k_4 x2 x3 = some res → g_At (dC, dI) p l e (headSpec wsX3_pintsOfAll rm_X3_pintsOfAll_C).room s m args below meth c Q (wC a cy I A T) sz 5 (wC a cy I A T) [(2, .int x2)] 44 []) → ∀ (n_4 : Nat) (x2 : Int32) (x3 : Int32), f_X3_pintsOfAll_C_L4 N k_4 x1 I A n_4 x2 x3 = some res → g_At (dC, dI) p l e (headSpec wsX3_pintsOfAll rm_X3_pintsOfAll_C).room s m args below meth c Q (wC a cy I A T) sz 5 (wC a cy I A T) [(0, .ref (a 7)), (1, .int x1), (2, .int x2), (3, .int x3)] 4 [] := by
    intro x1 k_4 hk_4 n_4
    induction n_4 with
    | zero =>
      intro x2 x3 h
      exact absurd h (by rw [f_X3_pintsOfAll_C_L4]; exact fun q => by cases q)
    | succ n_4 ih4 =>
      intro x2 x3 h H locs hP hD hS ls hl
      rw [f_X3_pintsOfAll_C_L4] at h
      refine lv_iload_n hx hb dX3_pintsOfAll_4 rfl (lv_at hl 3 rfl) ?_
      refine lv_aload_n hx hb dX3_pintsOfAll_5 rfl (lv_at hl 0 rfl) ?_
      refine va_get (D := (dC, dI)) (ci := 3) (v := .ref (a 8)) (C := RX3) (T := TX3) (N := 6) hx hb hts inX3_pintsOfAll_X3 hown hK hP 7 (eC_7 a cy I A T) rfl 0 (by decide) (hts _ mX3_pintsOfAll_0) (fun _ h9 => h9) rfl dX3_pintsOfAll_6 ?_
      refine va_get (D := (dC, dI)) (ci := 6) (v := .int (I 13)) (C := RX6) (T := TX6) (N := 6) hx hb hts inX3_pintsOfAll_X6 hown hK hP 8 (eC_8 a cy I A T) rfl 3 (by decide) (hts _ mX3_pintsOfAll_1) (fun _ h9 => h9) rfl dX3_pintsOfAll_9 ?_
      refine lv_icmp_ge (tgt := 44) hx hb dX3_pintsOfAll_12 (by decide) (fun c1 => ?_) (fun c1 => ?_)
      · replace h := ite_t h c1
        exact hk_4 _ _ h _ _ hP hD hS _ (lv_sub hl [2] rfl)
      · replace h := ite_f h c1
        refine lv_aload_n hx hb dX3_pintsOfAll_15 rfl (lv_at hl 0 rfl) ?_
        refine lv_iload_n hx hb dX3_pintsOfAll_16 rfl (lv_at hl 3 rfl) ?_
        refine lv_iload_n hx hb dX3_pintsOfAll_17 rfl (lv_at hl 1 rfl) ?_
        obtain ⟨r2, hr2, h⟩ := bnd_some h
        refine g_callVi (As := [.int x3, .int x1]) (rest := []) (ci := 3) (q0 := 7) hx hb hml hown hts (c_X3_pintsOf_C l dC dI a cy N I A T x3 x1 r2 hr2) (cwV 2 hts gX3_pintsOfAll_X3_pintsOf rfl rfl rfl (by decide +kernel) ⟨Nat.le_of_ble_eq_true rfl, Nat.le_of_ble_eq_true rfl⟩) hK hP hD hS hA rfl (eC_7 a cy I A T) rfl rfl hl.1 rfl (Nat.le_of_ble_eq_true rfl) dX3_pintsOfAll_18 (fun H locs hP hD hS => ?_)
        refine lv_istore (lv' := [(4, .int r2), (0, .ref (a 7)), (1, .int x1), (2, .int x2), (3, .int x3)]) hx hb dX3_pintsOfAll_21 hl (by decide) rfl (fun ls hl => ?_)
        refine lv_iload hx hb dX3_pintsOfAll_23 (lv_at hl 0 rfl) ?_
        refine lv_bipush (v := (-9)) hx hb dX3_pintsOfAll_25 (by decide) ?_
        refine lv_icmp_ne (tgt := 33) hx hb dX3_pintsOfAll_27 (by decide) (fun c3 => ?_) (fun c3 => ?_)
        · replace h := ite_f h c3
          refine lv_iload_n hx hb dX3_pintsOfAll_33 rfl (lv_at hl 3 rfl) ?_
          refine lv_iload hx hb dX3_pintsOfAll_34 (lv_at hl 0 rfl) ?_
          refine lv_iadd hx hb dX3_pintsOfAll_36 ?_
          refine lv_istore_n (lv' := [(2, .int (x2 + r2)), (4, .int r2), (0, .ref (a 7)), (1, .int x1), (3, .int x3)]) hx hb dX3_pintsOfAll_37 rfl hl (by decide) rfl (fun ls hl => ?_)
          refine lv_iinc (v := (x3 + 1)) (lv' := [(3, .int (x3 + 1)), (2, .int (x2 + r2)), (4, .int r2), (0, .ref (a 7)), (1, .int x1)]) hx hb dX3_pintsOfAll_38 hl (k := 4) rfl rfl (by decide) rfl (fun ls hl => ?_)
          refine lv_goto (tgt := 4) hx hb dX3_pintsOfAll_41 (by decide) ?_
          exact ih4 _ _ h _ _ hP hD hS _ (lv_sub hl [3, 4, 1, 0] rfl)
        · replace h := ite_t h c3
          refine lv_bipush (v := (-9)) hx hb dX3_pintsOfAll_30 (by decide) ?_
          obtain rfl := Option.some.inj h
          exact g_iret hx hb hr hK hP hD hS hQ dX3_pintsOfAll_32
  refine lp4 _ _ ?_ N _ _ h _ _ hP hD hS _ (lv_sub hl [2, 3, 1, 0] rfl)
  intro x2 x3 h H locs hP hD hS ls hl
  refine lv_iload_n hx hb dX3_pintsOfAll_44 rfl (lv_at hl 0 rfl) ?_
  obtain rfl := Option.some.inj h
  exact g_iret hx hb hr hK hP hD hS hQ dX3_pintsOfAll_45
