theorem inX3_pintsOf_X3 : ∀ w ∈ u_ws RX3 TX3 6, w ∈ wsX3_pintsOf := by decide +kernel
theorem mX3_pintsOf_0 : Cond.fieldLink RX3 22 "WarmBottles$Night" "bed" "[I" ∈ wsX3_pintsOf := List.mem_of_getElem? (i := 1) rfl
theorem mX3_pintsOf_1 : Cond.fieldLink RX3 32 "WarmBottles$Night" "frost" "I" ∈ wsX3_pintsOf := List.mem_of_getElem? (i := 2) rfl
theorem mX3_pintsOf_2 : Cond.fieldLink RX3 18 "WarmBottles$Night" "warm" "[I" ∈ wsX3_pintsOf := List.mem_of_getElem? (i := 3) rfl
def rm_X3_pintsOf_C : Room := { frames := 5, cells := 0, slots := 0, locals := 270 }
def f_X3_pintsOf_C_L19 (N : Nat) (k_19 : Int32 → Option (Int32)) (x1 : Int32) (x3 : Int32) (I : (Nat → Int32)) (A : (Nat → Nat → Int32)) : Nat → Int32 → Option (Int32)
  | 0, _ => none
  | n_19 + 1, x4 => (if 9 < x4 then (k_19 x4) else (if x1 < 0 ∨ 6 ≤ x1.toNatClampNeg then none else (Option.bind (f_X3_warmBy_C N I A ((A 7) x1.toNatClampNeg) x4) (fun r4 => (if r4 ≤ x3 then (f_X3_pintsOf_C_L19 N k_19 x1 x3 I A n_19 (x4 + 1)) else some x4)))))
def f_X3_pintsOf_C (N : Nat) (I : Nat → Int32) (A : Nat → Nat → Int32) (p1 : Int32) (p2 : Int32) : Option (Int32) := (Option.bind (f_X3_loss_C N I A p1 (I 11)) (fun r1 => (f_X3_pintsOf_C_L19 N (fun (x4 : Int32) => some (-9)) p1 (p2 * r1) I A N 0)))
set_option maxHeartbeats 4000000 in
set_option maxRecDepth 100000 in
theorem c_X3_pintsOf_C (l : Launch) (dC : Nat → ClassId) (dI : Nat → Nat → Nat) (a : Nat → Nat) (cy : Nat → ClassId) (N : Nat) (I : Nat → Int32) (A : Nat → Nat → Int32) (T : Int64) (p1 : Int32) (p2 : Int32) (res : Int32) (h : f_X3_pintsOf_C N I A p1 p2 = some res) (sz : Nat) : Met l yX3_pintsOf wsX3_pintsOf rm_X3_pintsOf_C (g_Pre (dC, dI) cy [.ref (a 7), .int p1, .int p2] (wC a cy I A T) sz) (g_Qi (dC, dI) cy res (wC a cy I A T) (wC a cy I A T) sz) 0 0 (va_A (wC a cy I A T) sz) := by
  unfold f_X3_pintsOf_C at h
  refine g_entry _ _ _ _ _ _ (cc := cX3_pintsOf) (maxL := 5) (ret := (some .int)) (by decide) rfl (Nat.le_of_ble_eq_true rfl) ?_
  intro p e s m args below meth c ls hx hb hml hown hts hr hlocks hA hK hP hD hS hl Q hQ
  have hl : lv_has ls 5 [(0, .ref (a 7)), (1, .int p1), (2, .int p2)] := hl
  have hown : s.vm.findClass RX3 = some m.cls := hown
  refine lv_iload_n hx hb dX3_pintsOf_0 rfl (lv_at hl 2 rfl) ?_
  refine lv_aload_n hx hb dX3_pintsOf_1 rfl (lv_at hl 0 rfl) ?_
  refine lv_iload_n hx hb dX3_pintsOf_2 rfl (lv_at hl 1 rfl) ?_
  refine lv_aload_n hx hb dX3_pintsOf_3 rfl (lv_at hl 0 rfl) ?_
  refine va_get (D := (dC, dI)) (ci := 3) (v := .ref (a 13)) (C := RX3) (T := TX3) (N := 6) hx hb hts inX3_pintsOf_X3 hown hK hP 7 (eC_7 a cy I A T) rfl 2 (by decide) (hts _ mX3_pintsOf_0) (fun _ h9 => h9) rfl dX3_pintsOf_4 ?_
  refine lv_aload_n hx hb dX3_pintsOf_7 rfl (lv_at hl 0 rfl) ?_
  refine va_get (D := (dC, dI)) (ci := 3) (v := .int (I 11)) (C := RX3) (T := TX3) (N := 6) hx hb hts inX3_pintsOf_X3 hown hK hP 7 (eC_7 a cy I A T) rfl 4 (by decide) (hts _ mX3_pintsOf_1) (fun _ h9 => h9) rfl dX3_pintsOf_8 ?_
  obtain ⟨r1, hr1, h⟩ := bnd_some h
  refine g_callVi (As := [.int p1, .ref (a 13), .int (I 11)]) (rest := [.int p2]) (ci := 3) (q0 := 7) hx hb hml hown hts (c_X3_loss_C l dC dI a cy N I A T p1 (I 11) r1 hr1) (cwV 3 hts gX3_pintsOf_X3_loss rfl rfl rfl (by decide +kernel) ⟨Nat.le_of_ble_eq_true rfl, Nat.le_of_ble_eq_true rfl⟩) hK hP hD hS hA rfl (eC_7 a cy I A T) rfl rfl hl.1 rfl (Nat.le_of_ble_eq_true rfl) dX3_pintsOf_11 (fun H locs hP hD hS => ?_)
  refine lv_imul hx hb dX3_pintsOf_14 ?_
  refine lv_istore_n (lv' := [(3, .int (p2 * r1)), (0, .ref (a 7)), (1, .int p1), (2, .int p2)]) hx hb dX3_pintsOf_15 rfl hl (by decide) rfl (fun ls hl => ?_)
  refine lv_iconst (v := 0) hx hb dX3_pintsOf_16 (by decide) ?_
  refine lv_istore (lv' := [(4, .int 0), (3, .int (p2 * r1)), (0, .ref (a 7)), (1, .int p1), (2, .int p2)]) hx hb dX3_pintsOf_17 hl (by decide) rfl (fun ls hl => ?_)
  have lp19 : ∀ (x1 : Int32) (x3 : Int32) (k_19 : Int32 → Option (Int32)), (∀ (x4 : Int32), k_19 x4 = some res → g_At (dC, dI) p l e (headSpec wsX3_pintsOf rm_X3_pintsOf_C).room s m args below meth c Q (wC a cy I A T) sz 5 (wC a cy I A T) [] 51 []) → ∀ (n_19 : Nat) (x4 : Int32), f_X3_pintsOf_C_L19 N k_19 x1 x3 I A n_19 x4 = some res → g_At (dC, dI) p l e (headSpec wsX3_pintsOf rm_X3_pintsOf_C).room s m args below meth c Q (wC a cy I A T) sz 5 (wC a cy I A T) [(0, .ref (a 7)), (1, .int x1), (3, .int x3), (4, .int x4)] 19 [] := by
    intro x1 x3 k_19 hk_19 n_19
    induction n_19 with
    | zero =>
      intro x4 h
      exact absurd h (by rw [f_X3_pintsOf_C_L19]; exact fun q => by cases q)
    | succ n_19 ih19 =>
      intro x4 h H locs hP hD hS ls hl
      rw [f_X3_pintsOf_C_L19] at h
      refine lv_iload hx hb dX3_pintsOf_19 (lv_at hl 3 rfl) ?_
      refine lv_bipush (v := 9) hx hb dX3_pintsOf_21 (by decide) ?_
      refine lv_icmp_gt (tgt := 51) hx hb dX3_pintsOf_23 (by decide) (fun c2 => ?_) (fun c2 => ?_)
      · replace h := ite_t h c2
        exact hk_19 _ h _ _ hP hD hS _ (lv_sub hl [] rfl)
      · replace h := ite_f h c2
        refine lv_aload_n hx hb dX3_pintsOf_26 rfl (lv_at hl 0 rfl) ?_
        refine lv_aload_n hx hb dX3_pintsOf_27 rfl (lv_at hl 0 rfl) ?_
        refine va_get (D := (dC, dI)) (ci := 3) (v := .ref (a 12)) (C := RX3) (T := TX3) (N := 6) hx hb hts inX3_pintsOf_X3 hown hK hP 7 (eC_7 a cy I A T) rfl 1 (by decide) (hts _ mX3_pintsOf_2) (fun _ h9 => h9) rfl dX3_pintsOf_28 ?_
        refine lv_iload_n hx hb dX3_pintsOf_31 rfl (lv_at hl 1 rfl) ?_
        obtain ⟨i3, h⟩ := inb_some h
        refine g_iald (f := (A 7)) (j := x1.toNatClampNeg) hx hb hK hP 12 (eC_12 a cy I A T) i3 rfl dX3_pintsOf_32 ?_
        refine lv_iload hx hb dX3_pintsOf_33 (lv_at hl 3 rfl) ?_
        obtain ⟨r4, hr4, h⟩ := bnd_some h
        refine g_callVi (As := [.int ((A 7) x1.toNatClampNeg), .int x4]) (rest := []) (ci := 3) (q0 := 7) hx hb hml hown hts (c_X3_warmBy_C l dC dI a cy N I A T ((A 7) x1.toNatClampNeg) x4 r4 hr4) (cwV 2 hts gX3_pintsOf_X3_warmBy rfl rfl rfl (by decide +kernel) ⟨Nat.le_of_ble_eq_true rfl, Nat.le_of_ble_eq_true rfl⟩) hK hP hD hS hA rfl (eC_7 a cy I A T) rfl rfl hl.1 rfl (Nat.le_of_ble_eq_true rfl) dX3_pintsOf_35 (fun H locs hP hD hS => ?_)
        refine lv_iload_n hx hb dX3_pintsOf_38 rfl (lv_at hl 2 rfl) ?_
        refine lv_icmp_le (tgt := 45) hx hb dX3_pintsOf_39 (by decide) (fun c5 => ?_) (fun c5 => ?_)
        · replace h := ite_t h c5
          refine lv_iinc (v := (x4 + 1)) (lv' := [(4, .int (x4 + 1)), (0, .ref (a 7)), (1, .int x1), (3, .int x3)]) hx hb dX3_pintsOf_45 hl (k := 3) rfl rfl (by decide) rfl (fun ls hl => ?_)
          refine lv_goto (tgt := 19) hx hb dX3_pintsOf_48 (by decide) ?_
          exact ih19 _ h _ _ hP hD hS _ (lv_sub hl [1, 2, 3, 0] rfl)
        · replace h := ite_f h c5
          refine lv_iload hx hb dX3_pintsOf_42 (lv_at hl 3 rfl) ?_
          obtain rfl := Option.some.inj h
          exact g_iret hx hb hr hK hP hD hS hQ dX3_pintsOf_44
  refine lp19 _ _ _ ?_ N _ h _ _ hP hD hS _ (lv_sub hl [2, 3, 1, 0] rfl)
  intro x4 h H locs hP hD hS ls hl
  refine lv_bipush (v := (-9)) hx hb dX3_pintsOf_51 (by decide) ?_
  obtain rfl := Option.some.inj h
  exact g_iret hx hb hr hK hP hD hS hQ dX3_pintsOf_53
