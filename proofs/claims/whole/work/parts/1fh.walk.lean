def rm_X3_lasts_Ct : Room := { frames := 5, cells := 0, slots := 0, locals := 270 }
def f_X3_lasts_Ct (N : Nat) (I : Nat → Int32) (A : Nat → Nat → Int32) (p1 : Int32) : Option (Int32) := (Option.bind (f_X3_loss_Ct N I A p1 (I 11)) (fun r1 => (if r1 ≤ 0 then some 99 else (if p1 < 0 ∨ 6 ≤ p1.toNatClampNeg then none else (if r1 = 0 then none else some (((((A 7) p1.toNatClampNeg) + r1) - 1) / r1))))))
set_option maxHeartbeats 4000000 in
set_option maxRecDepth 100000 in
theorem c_X3_lasts_Ct (l : Launch) (dC : Nat → ClassId) (dI : Nat → Nat → Nat) (a : Nat → Nat) (cy : Nat → ClassId) (tb : Nat) (N : Nat) (I : Nat → Int32) (A : Nat → Nat → Int32) (T : Int64) (p1 : Int32) (res : Int32) (h : f_X3_lasts_Ct N I A p1 = some res) (sz : Nat) : Met l yX3_lasts wsX3_lasts rm_X3_lasts_Ct (g_PreT (dC, dI) cy tb [.ref (a 7), .int p1, .ref tb] (wC a cy I A T) sz) (g_Qi (dC, dI) cy res (wC a cy I A T) (wC a cy I A T) sz) 0 0 (va_A (wC a cy I A T) sz) := by
  unfold f_X3_lasts_Ct at h
  refine g_entryT _ _ _ _ _ _ _ (cc := cX3_lasts) (maxL := 4) (ret := (some .int)) (by decide) rfl (Nat.le_of_ble_eq_true rfl) ?_
  intro p e s m args below meth c ls hx hb hml hown hts hr hlocks hA hK hP hD hS hl hT hZ Q hQ
  have hl : lv_has ls 4 [(0, .ref (a 7)), (1, .int p1), (2, .ref tb)] := hl
  have hown : s.vm.findClass RX3 = some m.cls := hown
  refine lv_aload_n hx hb dX3_lasts_0 rfl (lv_at hl 0 rfl) ?_
  refine lv_iload_n hx hb dX3_lasts_1 rfl (lv_at hl 1 rfl) ?_
  refine lv_aload_n hx hb dX3_lasts_2 rfl (lv_at hl 2 rfl) ?_
  refine lv_aload_n hx hb dX3_lasts_3 rfl (lv_at hl 0 rfl) ?_
  refine va_get (D := (dC, dI)) (ci := 3) (v := .int (I 11)) (C := RX3) (T := TX3) (N := 6) hx hb hts inX3_lasts_X3 hown hK hP 7 (eC_7 a cy I A T) rfl 4 (by decide) (hts _ mX3_lasts_0) (fun _ h9 => h9) rfl dX3_lasts_4 ?_
  obtain ⟨r1, hr1, h⟩ := bnd_some h
  refine g_callViT (As := [.int p1, .ref tb, .int (I 11)]) (rest := []) (ci := 3) (q0 := 7) hx hb hml hown hts (c_X3_loss_Ct l dC dI a cy tb N I A T p1 (I 11) r1 hr1) (cwV 3 hts gX3_lasts_X3_loss rfl rfl rfl (by decide +kernel) ⟨Nat.le_of_ble_eq_true rfl, Nat.le_of_ble_eq_true rfl⟩) hK hP hD hS hA hT hZ rfl (eC_7 a cy I A T) rfl rfl hl.1 rfl (Nat.le_of_ble_eq_true rfl) dX3_lasts_7 (fun H locs hP hD hS => ?_)
  refine lv_istore_n (lv' := [(3, .int r1), (0, .ref (a 7)), (1, .int p1), (2, .ref tb)]) hx hb dX3_lasts_10 rfl hl (by decide) rfl (fun ls hl => ?_)
  refine lv_iload_n hx hb dX3_lasts_11 rfl (lv_at hl 0 rfl) ?_
  refine lv_if_le (tgt := 30) hx hb dX3_lasts_12 (by decide) (fun c2 => ?_) (fun c2 => ?_)
  · replace h := ite_t h c2
    refine lv_bipush (v := 99) hx hb dX3_lasts_30 (by decide) ?_
    obtain rfl := Option.some.inj h
    exact g_iret hx hb hr hK hP hD hS hQ dX3_lasts_32
  · replace h := ite_f h c2
    refine lv_aload_n hx hb dX3_lasts_15 rfl (lv_at hl 1 rfl) ?_
    refine va_get (D := (dC, dI)) (ci := 3) (v := .ref (a 12)) (C := RX3) (T := TX3) (N := 6) hx hb hts inX3_lasts_X3 hown hK hP 7 (eC_7 a cy I A T) rfl 1 (by decide) (hts _ mX3_lasts_1) (fun _ h9 => h9) rfl dX3_lasts_16 ?_
    refine lv_iload_n hx hb dX3_lasts_19 rfl (lv_at hl 2 rfl) ?_
    obtain ⟨i3, h⟩ := inb_some h
    refine g_iald (f := (A 7)) (j := p1.toNatClampNeg) hx hb hK hP 12 (eC_12 a cy I A T) i3 rfl dX3_lasts_20 ?_
    refine lv_iload_n hx hb dX3_lasts_21 rfl (lv_at hl 0 rfl) ?_
    refine lv_iadd hx hb dX3_lasts_22 ?_
    refine lv_iconst (v := 1) hx hb dX3_lasts_23 (by decide) ?_
    refine lv_isub hx hb dX3_lasts_24 ?_
    refine lv_iload_n hx hb dX3_lasts_25 rfl (lv_at hl 0 rfl) ?_
    obtain ⟨z4, h⟩ := nz_some h
    refine lv_idiv hx hb dX3_lasts_26 z4 ?_
    refine lv_goto (tgt := 32) hx hb dX3_lasts_27 (by decide) ?_
    obtain rfl := Option.some.inj h
    exact g_iret hx hb hr hK hP hD hS hQ dX3_lasts_32
