def rm_X2_mostFrom_C (d : Nat) : Room := { frames := 8 * d + 8, cells := 0, slots := 0, locals := 400 * d + 400 }
def rm_X2_mostByFilling_C (d : Nat) : Room := { frames := 8 * d + 12, cells := 0, slots := 0, locals := 400 * d + 600 }
def f_X2_mostByFilling_C (N : Nat) (mf : (Nat → Int32) → (Nat → Nat → Int32) → Int32 → Int32 → Option (Int32 × (Nat → Nat → Int32))) (I : Nat → Int32) (A : Nat → Nat → Int32) (p2 : Int32) (p3 : Int32) (p4 : Int32) : Option (Int32 × (Nat → Nat → Int32)) := (if p2 = 6 then (if p4 < 0 then some (p3, A) else (Option.bind (f_X2_staysWarmByFilling_C N I A p2 p3) (fun r7 => (if r7.1 = 0 then some (p3, r7.2) else (Option.bind (mf I r7.2 (p3 + 1) (p4 - 0)) (fun r9 => some (r9.1, r9.2))))))) else (if p4 < 1 then some (p3, A) else (Option.bind (f_X2_staysWarmByFilling_C N I A p2 p3) (fun r3 => (if r3.1 = 0 then some (p3, r3.2) else (Option.bind (mf I r3.2 (p3 + 1) (p4 - 1)) (fun r5 => some (r5.1, r5.2))))))))
set_option maxHeartbeats 4000000 in
set_option maxRecDepth 100000 in
theorem c_X2_mostByFilling_C (l : Launch) (dC : Nat → ClassId) (dI : Nat → Nat → Nat) (a : Nat → Nat) (cy : Nat → ClassId) (N : Nat) (mf : (Nat → Int32) → (Nat → Nat → Int32) → Int32 → Int32 → Option (Int32 × (Nat → Nat → Int32))) (d : Nat) (hmf : ∀ (I : Nat → Int32) (A : Nat → Nat → Int32) (T : Int64) (p1 p2 : Int32) (res : Int32 × (Nat → Nat → Int32)), mf I A p1 p2 = some res → ∀ sz : Nat, Met l yX2_mostFrom wsX2_mostFrom (rm_X2_mostFrom_C d) (g_Pre (dC, dI) cy [.ref (a 23), .ref (a 7), .int p1, .int p2] (wC a cy I A T) sz) (g_Qi (dC, dI) cy res.1 (wC a cy I A T) (wC a cy I res.2 T) sz) 0 0 (va_A (wC a cy I A T) sz)) (I : Nat → Int32) (A : Nat → Nat → Int32) (T : Int64) (p2 : Int32) (p3 : Int32) (p4 : Int32) (res : Int32 × (Nat → Nat → Int32)) (h : f_X2_mostByFilling_C N mf I A p2 p3 p4 = some res) (sz : Nat) : Met l yX2_mostByFilling wsX2_mostByFilling (rm_X2_mostByFilling_C d) (g_Pre (dC, dI) cy [.ref (a 23), .ref (a 7), .int p2, .int p3, .int p4] (wC a cy I A T) sz) (g_Qi (dC, dI) cy res.1 (wC a cy I A T) (wC a cy I res.2 T) sz) 0 0 (va_A (wC a cy I A T) sz) := by
  unfold f_X2_mostByFilling_C at h
  refine g_entry _ _ _ _ _ _ (cc := cX2_mostByFilling) (maxL := 6) (ret := (some .int)) (by decide) rfl (Nat.le_of_ble_eq_true rfl) ?_
  intro p e s m args below meth c ls hx hb hml hown hts hr hlocks hA hK hP hD hS hl Q hQ
  have hl : lv_has ls 6 [(0, .ref (a 23)), (1, .ref (a 7)), (2, .int p2), (3, .int p3), (4, .int p4)] := hl
  have hown : s.vm.findClass RX2 = some m.cls := hown
  refine lv_iload_n hx hb dX2_mostByFilling_0 rfl (lv_at hl 2 rfl) ?_
  refine lv_bipush (v := 6) hx hb dX2_mostByFilling_1 (by decide) ?_
  refine lv_icmp_ne (tgt := 10) hx hb dX2_mostByFilling_3 (by decide) (fun c1 => ?_) (fun c1 => ?_)
  · replace h := ite_f h c1
    refine lv_iconst (v := 1) hx hb dX2_mostByFilling_10 (by decide) ?_
    refine lv_istore (lv' := [(5, .int 1), (0, .ref (a 23)), (1, .ref (a 7)), (2, .int p2), (3, .int p3), (4, .int p4)]) hx hb dX2_mostByFilling_11 hl (by decide) rfl (fun ls hl => ?_)
    refine lv_iload hx hb dX2_mostByFilling_13 (lv_at hl 5 rfl) ?_
    refine lv_iload hx hb dX2_mostByFilling_15 (lv_at hl 0 rfl) ?_
    refine lv_icmp_lt (tgt := 30) hx hb dX2_mostByFilling_17 (by decide) (fun c2 => ?_) (fun c2 => ?_)
    · replace h := ite_t h c2
      refine lv_iload_n hx hb dX2_mostByFilling_30 rfl (lv_at hl 4 rfl) ?_
      obtain rfl := Option.some.inj h
      exact g_iret hx hb hr hK hP hD hS hQ dX2_mostByFilling_31
    · replace h := ite_f h c2
      refine lv_aload_n hx hb dX2_mostByFilling_20 rfl (lv_at hl 1 rfl) ?_
      refine lv_aload_n hx hb dX2_mostByFilling_21 rfl (lv_at hl 2 rfl) ?_
      refine lv_iload_n hx hb dX2_mostByFilling_22 rfl (lv_at hl 3 rfl) ?_
      refine lv_iload_n hx hb dX2_mostByFilling_23 rfl (lv_at hl 4 rfl) ?_
      obtain ⟨r3, hr3, h⟩ := bnd_some h
      refine g_callVi (As := [.ref (a 7), .int p2, .int p3]) (rest := []) (ci := 2) (q0 := 23) hx hb hml hown hts (c_X2_staysWarmByFilling_C l dC dI a cy N I A T p2 p3 r3 hr3) (cwV 3 hts gX2_mostByFilling_X2_staysWarmByFilling rfl rfl rfl (by decide +kernel) ⟨by show _ + 1 ≤ _; simp only [rm_X2_staysWarmByFilling_C, rm_X2_mostByFilling_C, headSpec]; omega, by show 8 + (_ + 11) + _ ≤ _; simp only [rm_X2_staysWarmByFilling_C, rm_X2_mostByFilling_C, headSpec]; omega⟩) hK hP hD hS hA rfl (eC_23 a cy I A T) rfl rfl hl.1 rfl (Nat.le_of_ble_eq_true rfl) dX2_mostByFilling_24 (fun H locs hP hD hS => ?_)
      refine lv_if_ne (tgt := 32) hx hb dX2_mostByFilling_27 (by decide) (fun c4 => ?_) (fun c4 => ?_)
      · replace h := ite_f h c4
        refine lv_aload_n hx hb dX2_mostByFilling_32 rfl (lv_at hl 1 rfl) ?_
        refine lv_aload_n hx hb dX2_mostByFilling_33 rfl (lv_at hl 2 rfl) ?_
        refine lv_iload_n hx hb dX2_mostByFilling_34 rfl (lv_at hl 4 rfl) ?_
        refine lv_iconst (v := 1) hx hb dX2_mostByFilling_35 (by decide) ?_
        refine lv_iadd hx hb dX2_mostByFilling_36 ?_
        refine lv_iload hx hb dX2_mostByFilling_37 (lv_at hl 5 rfl) ?_
        refine lv_iload hx hb dX2_mostByFilling_39 (lv_at hl 0 rfl) ?_
        refine lv_isub hx hb dX2_mostByFilling_41 ?_
        obtain ⟨r5, hr5, h⟩ := bnd_some h
        refine g_callVi (As := [.ref (a 7), .int (p3 + 1), .int (p4 - 1)]) (rest := []) (ci := 2) (q0 := 23) hx hb hml hown hts (hmf I r3.2 T (p3 + 1) (p4 - 1) r5 hr5) (cwV 3 hts gX2_mostByFilling_X2_mostFrom rfl rfl rfl (by decide +kernel) ⟨by show _ + 1 ≤ _; simp only [rm_X2_mostFrom_C, rm_X2_mostByFilling_C, headSpec]; omega, by show 8 + (_ + 11) + _ ≤ _; simp only [rm_X2_mostFrom_C, rm_X2_mostByFilling_C, headSpec]; omega⟩) hK hP hD hS hA rfl (eC_23 a cy I r3.2 T) rfl rfl hl.1 rfl (Nat.le_of_ble_eq_true rfl) dX2_mostByFilling_42 (fun H locs hP hD hS => ?_)
        obtain rfl := Option.some.inj h
        exact g_iret hx hb hr hK hP hD hS hQ dX2_mostByFilling_45
      · replace h := ite_t h c4
        refine lv_iload_n hx hb dX2_mostByFilling_30 rfl (lv_at hl 4 rfl) ?_
        obtain rfl := Option.some.inj h
        exact g_iret hx hb hr hK hP hD hS hQ dX2_mostByFilling_31
  · replace h := ite_t h c1
    refine lv_iconst (v := 0) hx hb dX2_mostByFilling_6 (by decide) ?_
    refine lv_goto (tgt := 11) hx hb dX2_mostByFilling_7 (by decide) ?_
    refine lv_istore (lv' := [(5, .int 0), (0, .ref (a 23)), (1, .ref (a 7)), (2, .int p2), (3, .int p3), (4, .int p4)]) hx hb dX2_mostByFilling_11 hl (by decide) rfl (fun ls hl => ?_)
    refine lv_iload hx hb dX2_mostByFilling_13 (lv_at hl 5 rfl) ?_
    refine lv_iload hx hb dX2_mostByFilling_15 (lv_at hl 0 rfl) ?_
    refine lv_icmp_lt (tgt := 30) hx hb dX2_mostByFilling_17 (by decide) (fun c6 => ?_) (fun c6 => ?_)
    · replace h := ite_t h c6
      refine lv_iload_n hx hb dX2_mostByFilling_30 rfl (lv_at hl 4 rfl) ?_
      obtain rfl := Option.some.inj h
      exact g_iret hx hb hr hK hP hD hS hQ dX2_mostByFilling_31
    · replace h := ite_f h c6
      refine lv_aload_n hx hb dX2_mostByFilling_20 rfl (lv_at hl 1 rfl) ?_
      refine lv_aload_n hx hb dX2_mostByFilling_21 rfl (lv_at hl 2 rfl) ?_
      refine lv_iload_n hx hb dX2_mostByFilling_22 rfl (lv_at hl 3 rfl) ?_
      refine lv_iload_n hx hb dX2_mostByFilling_23 rfl (lv_at hl 4 rfl) ?_
      obtain ⟨r7, hr7, h⟩ := bnd_some h
      refine g_callVi (As := [.ref (a 7), .int p2, .int p3]) (rest := []) (ci := 2) (q0 := 23) hx hb hml hown hts (c_X2_staysWarmByFilling_C l dC dI a cy N I A T p2 p3 r7 hr7) (cwV 3 hts gX2_mostByFilling_X2_staysWarmByFilling rfl rfl rfl (by decide +kernel) ⟨by show _ + 1 ≤ _; simp only [rm_X2_staysWarmByFilling_C, rm_X2_mostByFilling_C, headSpec]; omega, by show 8 + (_ + 11) + _ ≤ _; simp only [rm_X2_staysWarmByFilling_C, rm_X2_mostByFilling_C, headSpec]; omega⟩) hK hP hD hS hA rfl (eC_23 a cy I A T) rfl rfl hl.1 rfl (Nat.le_of_ble_eq_true rfl) dX2_mostByFilling_24 (fun H locs hP hD hS => ?_)
      refine lv_if_ne (tgt := 32) hx hb dX2_mostByFilling_27 (by decide) (fun c8 => ?_) (fun c8 => ?_)
      · replace h := ite_f h c8
        refine lv_aload_n hx hb dX2_mostByFilling_32 rfl (lv_at hl 1 rfl) ?_
        refine lv_aload_n hx hb dX2_mostByFilling_33 rfl (lv_at hl 2 rfl) ?_
        refine lv_iload_n hx hb dX2_mostByFilling_34 rfl (lv_at hl 4 rfl) ?_
        refine lv_iconst (v := 1) hx hb dX2_mostByFilling_35 (by decide) ?_
        refine lv_iadd hx hb dX2_mostByFilling_36 ?_
        refine lv_iload hx hb dX2_mostByFilling_37 (lv_at hl 5 rfl) ?_
        refine lv_iload hx hb dX2_mostByFilling_39 (lv_at hl 0 rfl) ?_
        refine lv_isub hx hb dX2_mostByFilling_41 ?_
        obtain ⟨r9, hr9, h⟩ := bnd_some h
        refine g_callVi (As := [.ref (a 7), .int (p3 + 1), .int (p4 - 0)]) (rest := []) (ci := 2) (q0 := 23) hx hb hml hown hts (hmf I r7.2 T (p3 + 1) (p4 - 0) r9 hr9) (cwV 3 hts gX2_mostByFilling_X2_mostFrom rfl rfl rfl (by decide +kernel) ⟨by show _ + 1 ≤ _; simp only [rm_X2_mostFrom_C, rm_X2_mostByFilling_C, headSpec]; omega, by show 8 + (_ + 11) + _ ≤ _; simp only [rm_X2_mostFrom_C, rm_X2_mostByFilling_C, headSpec]; omega⟩) hK hP hD hS hA rfl (eC_23 a cy I r7.2 T) rfl rfl hl.1 rfl (Nat.le_of_ble_eq_true rfl) dX2_mostByFilling_42 (fun H locs hP hD hS => ?_)
        obtain rfl := Option.some.inj h
        exact g_iret hx hb hr hK hP hD hS hQ dX2_mostByFilling_45
      · replace h := ite_t h c8
        refine lv_iload_n hx hb dX2_mostByFilling_30 rfl (lv_at hl 4 rfl) ?_
        obtain rfl := Option.some.inj h
        exact g_iret hx hb hr hK hP hD hS hQ dX2_mostByFilling_31
