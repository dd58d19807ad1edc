theorem inX2_lookAt_X3 : ∀ w ∈ u_ws RX3 TX3 6, w ∈ wsX2_lookAt := by decide +kernel
theorem mX2_lookAt_0 : Cond.fieldLink RX2 36 "WarmBottles$Night" "told" "LWarmBottles$Told;" ∈ wsX2_lookAt := List.mem_of_getElem? (i := 1) rfl
theorem inX2_lookAt_X6 : ∀ w ∈ u_ws RX6 TX6 6, w ∈ wsX2_lookAt := by decide +kernel
theorem mX2_lookAt_1 : Cond.fieldLink RX2 40 "WarmBottles$Told" "bottles" "I" ∈ wsX2_lookAt := List.mem_of_getElem? (i := 2) rfl
theorem inX2_lookAt_X2 : ∀ w ∈ u_ws RX2 TX2 2, w ∈ wsX2_lookAt := by decide +kernel
theorem mX2_lookAt_2 : Cond.fieldLink RX2 9 "WarmBottles$Keeping" "loss" "[I" ∈ wsX2_lookAt := List.mem_of_getElem? (i := 3) rfl
theorem mX2_lookAt_3 : Cond.fieldLink RX2 49 "WarmBottles$Night" "bed" "[I" ∈ wsX2_lookAt := List.mem_of_getElem? (i := 4) rfl
theorem mX2_lookAt_4 : Cond.fieldLink RX2 52 "WarmBottles$Night" "frost" "I" ∈ wsX2_lookAt := List.mem_of_getElem? (i := 5) rfl
theorem mX2_lookAt_5 : Cond.fieldLink RX2 15 "WarmBottles$Keeping" "warm" "[I" ∈ wsX2_lookAt := List.mem_of_getElem? (i := 6) rfl
theorem mX2_lookAt_6 : Cond.fieldLink RX2 58 "WarmBottles$Night" "warm" "[I" ∈ wsX2_lookAt := List.mem_of_getElem? (i := 7) rfl
def rm_X2_lookAt_C : Room := { frames := 5, cells := 0, slots := 0, locals := 270 }
def f_X2_lookAt_C_L2 (N : Nat) (k_2 : Int32 → (Nat → Nat → Int32) → Option ((Nat → Nat → Int32))) (I : (Nat → Int32)) : Nat → Int32 → (Nat → Nat → Int32) → Option ((Nat → Nat → Int32))
  | 0, _, _ => none
  | n_2 + 1, x2, A_2 => (if (I 13) ≤ x2 then (k_2 x2 A_2) else (Option.bind (f_X3_loss_C N I A_2 x2 (I 11)) (fun r2 => (if x2 < 0 ∨ 6 ≤ x2.toNatClampNeg then none else (if x2 < 0 ∨ 30 ≤ x2.toNatClampNeg then none else (f_X2_lookAt_C_L2 N k_2 I n_2 (x2 + 1) (va_up (va_up A_2 14 (upd (A_2 14) x2.toNatClampNeg r2)) 15 (upd (A_2 15) x2.toNatClampNeg ((A_2 7) x2.toNatClampNeg)))))))))
def f_X2_lookAt_C (N : Nat) (I : Nat → Int32) (A : Nat → Nat → Int32)  : Option ((Nat → Nat → Int32)) := (f_X2_lookAt_C_L2 N (fun (x2 : Int32) (A_2 : (Nat → Nat → Int32)) => some A_2) I N 0 A)
set_option maxHeartbeats 4000000 in
set_option maxRecDepth 100000 in
theorem c_X2_lookAt_C (l : Launch) (dC : Nat → ClassId) (dI : Nat → Nat → Nat) (a : Nat → Nat) (cy : Nat → ClassId) (N : Nat) (I : Nat → Int32) (A : Nat → Nat → Int32) (T : Int64)  (res : (Nat → Nat → Int32)) (h : f_X2_lookAt_C N I A  = some res) (sz : Nat) : Met l yX2_lookAt wsX2_lookAt rm_X2_lookAt_C (g_Pre (dC, dI) cy [.ref (a 23), .ref (a 7)] (wC a cy I A T) sz) (g_Qv (dC, dI) cy (wC a cy I A T) (wC a cy I res T) sz) 0 0 (va_A (wC a cy I A T) sz) := by
  unfold f_X2_lookAt_C at h
  refine g_entry _ _ _ _ _ _ (cc := cX2_lookAt) (maxL := 3) (ret := none) (by decide) rfl (Nat.le_of_ble_eq_true rfl) ?_
  intro p e s m args below meth c ls hx hb hml hown hts hr hlocks hA hK hP hD hS hl Q hQ
  have hl : lv_has ls 3 [(0, .ref (a 23)), (1, .ref (a 7))] := hl
  have hown : s.vm.findClass RX2 = some m.cls := hown
  refine lv_iconst (v := 0) hx hb dX2_lookAt_0 (by decide) ?_
  refine lv_istore_n (lv' := [(2, .int 0), (0, .ref (a 23)), (1, .ref (a 7))]) hx hb dX2_lookAt_1 rfl hl (by decide) rfl (fun ls hl => ?_)
  have lp2 : ∀  (k_2 : Int32 → (Nat → Nat → Int32) → Option ((Nat → Nat → Int32))), (∀ (x2 : Int32) (A_2 : (Nat → Nat → Int32)), k_2 x2 A_2 = some res → g_At (dC, dI) p l e (headSpec wsX2_lookAt rm_X2_lookAt_C).room s m args below meth c Q (wC a cy I A T) sz 3 (wC a cy I A_2 T) [] 50 []) → ∀ (n_2 : Nat) (x2 : Int32) (A_2 : (Nat → Nat → Int32)), f_X2_lookAt_C_L2 N k_2 I n_2 x2 A_2 = some res → g_At (dC, dI) p l e (headSpec wsX2_lookAt rm_X2_lookAt_C).room s m args below meth c Q (wC a cy I A T) sz 3 (wC a cy I A_2 T) [(0, .ref (a 23)), (1, .ref (a 7)), (2, .int x2)] 2 [] := by
    intro  k_2 hk_2 n_2
    induction n_2 with
    | zero =>
      intro x2 A_2 h
      exact absurd h (by rw [f_X2_lookAt_C_L2]; exact fun q => by cases q)
    | succ n_2 ih2 =>
      intro x2 A_2 h H locs hP hD hS ls hl
      rw [f_X2_lookAt_C_L2] at h
      refine lv_iload_n hx hb dX2_lookAt_2 rfl (lv_at hl 2 rfl) ?_
      refine lv_aload_n hx hb dX2_lookAt_3 rfl (lv_at hl 1 rfl) ?_
      refine va_get (D := (dC, dI)) (ci := 3) (v := .ref (a 8)) (C := RX3) (T := TX3) (N := 6) hx hb hts inX2_lookAt_X3 hown hK hP 7 (eC_7 a cy I A_2 T) rfl 0 (by decide) (hts _ mX2_lookAt_0) (fun _ h9 => h9) rfl dX2_lookAt_4 ?_
      refine va_get (D := (dC, dI)) (ci := 6) (v := .int (I 13)) (C := RX6) (T := TX6) (N := 6) hx hb hts inX2_lookAt_X6 hown hK hP 8 (eC_8 a cy I A_2 T) rfl 3 (by decide) (hts _ mX2_lookAt_1) (fun _ h9 => h9) rfl dX2_lookAt_7 ?_
      refine lv_icmp_ge (tgt := 50) hx hb dX2_lookAt_10 (by decide) (fun c1 => ?_) (fun c1 => ?_)
      · replace h := ite_t h c1
        exact hk_2 _ _ h _ _ hP hD hS _ (lv_sub hl [] rfl)
      · replace h := ite_f h c1
        refine lv_aload_n hx hb dX2_lookAt_13 rfl (lv_at hl 0 rfl) ?_
        refine va_get (D := (dC, dI)) (ci := 2) (v := .ref (a 24)) (C := RX2) (T := TX2) (N := 2) hx hb hts inX2_lookAt_X2 hown hK hP 23 (eC_23 a cy I A_2 T) rfl 0 (by decide) (hts _ mX2_lookAt_2) (fun _ h9 => h9) rfl dX2_lookAt_14 ?_
        refine lv_iload_n hx hb dX2_lookAt_17 rfl (lv_at hl 2 rfl) ?_
        refine lv_aload_n hx hb dX2_lookAt_18 rfl (lv_at hl 1 rfl) ?_
        refine lv_iload_n hx hb dX2_lookAt_19 rfl (lv_at hl 2 rfl) ?_
        refine lv_aload_n hx hb dX2_lookAt_20 rfl (lv_at hl 1 rfl) ?_
        refine va_get (D := (dC, dI)) (ci := 3) (v := .ref (a 13)) (C := RX3) (T := TX3) (N := 6) hx hb hts inX2_lookAt_X3 hown hK hP 7 (eC_7 a cy I A_2 T) rfl 2 (by decide) (hts _ mX2_lookAt_3) (fun _ h9 => h9) rfl dX2_lookAt_21 ?_
        refine lv_aload_n hx hb dX2_lookAt_24 rfl (lv_at hl 1 rfl) ?_
        refine va_get (D := (dC, dI)) (ci := 3) (v := .int (I 11)) (C := RX3) (T := TX3) (N := 6) hx hb hts inX2_lookAt_X3 hown hK hP 7 (eC_7 a cy I A_2 T) rfl 4 (by decide) (hts _ mX2_lookAt_4) (fun _ h9 => h9) rfl dX2_lookAt_25 ?_
        obtain ⟨r2, hr2, h⟩ := bnd_some h
        refine g_callVi (As := [.int x2, .ref (a 13), .int (I 11)]) (rest := [.int x2, .ref (a 24)]) (ci := 3) (q0 := 7) hx hb hml hown hts (c_X3_loss_C l dC dI a cy N I A_2 T x2 (I 11) r2 hr2) (cwV 3 hts gX2_lookAt_X3_loss rfl rfl rfl (by decide +kernel) ⟨Nat.le_of_ble_eq_true rfl, Nat.le_of_ble_eq_true rfl⟩) hK hP hD hS hA rfl (eC_7 a cy I A_2 T) rfl rfl hl.1 rfl (Nat.le_of_ble_eq_true rfl) dX2_lookAt_28 (fun H locs hP hD hS => ?_)
        obtain ⟨i3, h⟩ := inb_some h
        refine g_iast (f := (A_2 14)) (j := x2.toNatClampNeg) hx hb hK hP hD hS 24 (eC_24 a cy I A_2 T) i3 rfl dX2_lookAt_31 (sC_24 a cy I A_2 T (upd (A_2 14) x2.toNatClampNeg r2)) (fun H locs hP hD hS => ?_)
        refine lv_aload_n hx hb dX2_lookAt_32 rfl (lv_at hl 0 rfl) ?_
        refine va_get (D := (dC, dI)) (ci := 2) (v := .ref (a 25)) (C := RX2) (T := TX2) (N := 2) hx hb hts inX2_lookAt_X2 hown hK hP 23 (eC_23 a cy I (va_up A_2 14 (upd (A_2 14) x2.toNatClampNeg r2)) T) rfl 1 (by decide) (hts _ mX2_lookAt_5) (fun _ h9 => h9) rfl dX2_lookAt_33 ?_
        refine lv_iload_n hx hb dX2_lookAt_36 rfl (lv_at hl 2 rfl) ?_
        refine lv_aload_n hx hb dX2_lookAt_37 rfl (lv_at hl 1 rfl) ?_
        refine va_get (D := (dC, dI)) (ci := 3) (v := .ref (a 12)) (C := RX3) (T := TX3) (N := 6) hx hb hts inX2_lookAt_X3 hown hK hP 7 (eC_7 a cy I (va_up A_2 14 (upd (A_2 14) x2.toNatClampNeg r2)) T) rfl 1 (by decide) (hts _ mX2_lookAt_6) (fun _ h9 => h9) rfl dX2_lookAt_38 ?_
        refine lv_iload_n hx hb dX2_lookAt_41 rfl (lv_at hl 2 rfl) ?_
        refine g_iald (f := (A_2 7)) (j := x2.toNatClampNeg) hx hb hK hP 12 (eC_12 a cy I (va_up A_2 14 (upd (A_2 14) x2.toNatClampNeg r2)) T) i3 rfl dX2_lookAt_42 ?_
        obtain ⟨i4, h⟩ := inb_some h
        refine g_iast (f := (A_2 15)) (j := x2.toNatClampNeg) hx hb hK hP hD hS 25 (eC_25 a cy I (va_up A_2 14 (upd (A_2 14) x2.toNatClampNeg r2)) T) i4 rfl dX2_lookAt_43 (sC_25 a cy I (va_up A_2 14 (upd (A_2 14) x2.toNatClampNeg r2)) T (upd (A_2 15) x2.toNatClampNeg ((A_2 7) x2.toNatClampNeg))) (fun H locs hP hD hS => ?_)
        refine lv_iinc (v := (x2 + 1)) (lv' := [(2, .int (x2 + 1)), (0, .ref (a 23)), (1, .ref (a 7))]) hx hb dX2_lookAt_44 hl (k := 2) rfl rfl (by decide) rfl (fun ls hl => ?_)
        refine lv_goto (tgt := 2) hx hb dX2_lookAt_47 (by decide) ?_
        exact ih2 _ _ h _ _ hP hD hS _ (lv_sub hl [1, 2, 0] rfl)
  refine lp2  _ ?_ N _ _ h _ _ hP hD hS _ (lv_sub hl [1, 2, 0] rfl)
  intro x2 A_2 h H locs hP hD hS ls hl
  obtain rfl := Option.some.inj h
  exact g_vret hx hb hr hK hP hD hS hQ dX2_lookAt_50
