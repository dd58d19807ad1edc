theorem inX7_forget_X7 : ∀ w ∈ u_ws RX7 TX7 9, w ∈ wsX7_forget := by decide +kernel
theorem mX7_forget_0 : Cond.fieldLink RX7 53 "WarmBottles" "heard" "LWarmBottles$Heard;" ∈ wsX7_forget := List.mem_of_getElem? (i := 1) rfl
theorem inX7_forget_X1 : ∀ w ∈ u_ws RX1 TX1 3, w ∈ wsX7_forget := by decide +kernel
theorem mX7_forget_1 : Cond.fieldLink RX7 89 "WarmBottles$Heard" "number" "I" ∈ wsX7_forget := List.mem_of_getElem? (i := 2) rfl
def rm_X7_forget_C : Room := { frames := 3, cells := 0, slots := 0, locals := 210 }
def f_X7_forget_C (N : Nat) (I : Nat → Int32) (A : Nat → Nat → Int32)  : Option (Int32 × (Nat → Int32)) := some ((I 18), (upd I 18 0))
set_option maxHeartbeats 4000000 in
set_option maxRecDepth 100000 in
theorem c_X7_forget_C (l : Launch) (dC : Nat → ClassId) (dI : Nat → Nat → Nat) (a : Nat → Nat) (cy : Nat → ClassId) (N : Nat) (I : Nat → Int32) (A : Nat → Nat → Int32) (T : Int64)  (res : Int32 × (Nat → Int32)) (h : f_X7_forget_C N I A  = some res) (sz : Nat) : Met l yX7_forget wsX7_forget rm_X7_forget_C (g_Pre (dC, dI) cy [.ref (a 0)] (wC a cy I A T) sz) (g_Qi (dC, dI) cy res.1 (wC a cy I A T) (wC a cy res.2 A T) sz) 0 0 (va_A (wC a cy I A T) sz) := by
  unfold f_X7_forget_C at h
  refine g_entry _ _ _ _ _ _ (cc := cX7_forget) (maxL := 2) (ret := (some .int)) (by decide) rfl (Nat.le_of_ble_eq_true rfl) ?_
  intro p e s m args below meth c ls hx hb hml hown hts hr hlocks hA hK hP hD hS hl Q hQ
  have hl : lv_has ls 2 [(0, .ref (a 0))] := hl
  have hown : s.vm.findClass RX7 = some m.cls := hown
  refine lv_aload_n hx hb dX7_forget_0 rfl (lv_at hl 0 rfl) ?_
  refine va_get (D := (dC, dI)) (ci := 7) (v := .ref (a 20)) (C := RX7) (T := TX7) (N := 9) hx hb hts inX7_forget_X7 hown hK hP 0 (eC_0 a cy I A T) rfl 6 (by decide) (hts _ mX7_forget_0) (fun _ h9 => h9) rfl dX7_forget_1 ?_
  refine va_get (D := (dC, dI)) (ci := 1) (v := .int (I 18)) (C := RX1) (T := TX1) (N := 3) hx hb hts inX7_forget_X1 hown hK hP 20 (eC_20 a cy I A T) rfl 2 (by decide) (hts _ mX7_forget_1) (fun _ h9 => h9) rfl dX7_forget_4 ?_
  refine lv_istore_n (lv' := [(1, .int (I 18)), (0, .ref (a 0))]) hx hb dX7_forget_7 rfl hl (by decide) rfl (fun ls hl => ?_)
  refine lv_aload_n hx hb dX7_forget_8 rfl (lv_at hl 1 rfl) ?_
  refine va_get (D := (dC, dI)) (ci := 7) (v := .ref (a 20)) (C := RX7) (T := TX7) (N := 9) hx hb hts inX7_forget_X7 hown hK hP 0 (eC_0 a cy I A T) rfl 6 (by decide) (hts _ mX7_forget_0) (fun _ h9 => h9) rfl dX7_forget_9 ?_
  refine lv_iconst (v := 0) hx hb dX7_forget_12 (by decide) ?_
  refine g_put (D := (dC, dI)) (ci := 1) (v := .int 0) (ty := .int) (C := RX1) (T := TX1) (N := 3) hx hb hts inX7_forget_X1 tyX1 tyX1_ok nmX1 hown hK hP hD hS 20 (eC_20 a cy I A T) rfl 2 (by decide) (hts _ mX7_forget_1) (fun _ h9 => h9) rfl (by decide +kernel) rfl rfl (Nat.le_of_ble_eq_true rfl) dX7_forget_13 (pC_20_2 a cy I A T 0) (fun H locs hP hD hS => ?_)
  refine lv_iload_n hx hb dX7_forget_16 rfl (lv_at hl 0 rfl) ?_
  obtain rfl := Option.some.inj h
  exact g_iret hx hb hr hK hP hD hS hQ dX7_forget_17
