theorem inX8_readsItem_X8 : ∀ w ∈ u_ws RX8 TX8 19, w ∈ wsX8_readsItem := by decide +kernel
theorem mX8_readsItem_0 : Cond.fieldLink RX8 73 "WarmBottlesModel" "sort" "I" ∈ wsX8_readsItem := List.mem_of_getElem? (i := 1) rfl
theorem mX8_readsItem_1 : Cond.fieldLink RX8 16 "WarmBottlesModel" "draft" "[I" ∈ wsX8_readsItem := List.mem_of_getElem? (i := 3) rfl
theorem mX8_readsItem_2 : Cond.fieldLink RX8 76 "WarmBottlesModel" "value" "I" ∈ wsX8_readsItem := List.mem_of_getElem? (i := 2) rfl
def rm_X8_readsItem_M : Room := { frames := 13, cells := 0, slots := 0, locals := 510 }
def f_X8_readsItem_M (N : Nat) (I : Nat → Int32) (A : Nat → Nat → Int32)  : Option (Int32 × (Nat → Int32) × (Nat → Nat → Int32)) := (if (I 4) = 1 then (if (I 6) = 98 then (if ((A 2) 0) = 6 then some (0, I, A) else (Option.bind (f_X8_number_M N I A (5 + ((A 2) 0)) 0 99) (fun r4 => (if r4.1 = 0 then some (0, r4.2.1, r4.2.2) else (Option.bind (f_X8_number_M N r4.2.1 r4.2.2 (11 + ((A 2) 0)) 1 9) (fun r6 => (if r6.1 = 0 then some (0, r6.2.1, r6.2.2) else (Option.bind (f_X8_number_M N r6.2.1 r6.2.2 (17 + ((A 2) 0)) 0 99) (fun r8 => (if r8.1 = 0 then some (0, r8.2.1, r8.2.2) else some (1, r8.2.1, (va_up r8.2.2 2 (upd (r8.2.2 2) 0 (((r8.2.2 2) 0) + 1)))))))))))))) else (if (I 6) = 107 then (Option.bind (f_X8_once_M N I A 1 1 0 60) (fun r11 => (if r11.1 = 0 ∨ r11.1 = 1 then some (r11.1, r11.2.1, r11.2.2) else none))) else (if (I 6) = 112 then (Option.bind (f_X8_once_M N I A 2 2 1 30) (fun r14 => (if r14.1 = 0 ∨ r14.1 = 1 then some (r14.1, r14.2.1, r14.2.2) else none))) else some (0, I, A)))) else some (0, I, A))
set_option maxHeartbeats 4000000 in
set_option maxRecDepth 100000 in
theorem c_X8_readsItem_M (l : Launch) (dC : Nat → ClassId) (dI : Nat → Nat → Nat) (a : Nat → Nat) (cy : Nat → ClassId) (N : Nat) (I : Nat → Int32) (A : Nat → Nat → Int32) (T : Int64)  (res : Int32 × (Nat → Int32) × (Nat → Nat → Int32)) (h : f_X8_readsItem_M N I A  = some res) (sz : Nat) : Met l yX8_readsItem wsX8_readsItem rm_X8_readsItem_M (g_Pre (dC, dI) cy [.ref (a 0)] (wM a cy I A T) sz) (g_Qi (dC, dI) cy res.1 (wM a cy I A T) (wM a cy res.2.1 res.2.2 T) sz) 0 0 (va_A (wM a cy I A T) sz) := by
  unfold f_X8_readsItem_M at h
  refine g_entry _ _ _ _ _ _ (cc := cX8_readsItem) (maxL := 3) (ret := (some .boolean)) (by decide) rfl (Nat.le_of_ble_eq_true rfl) ?_
  intro p e s m args below meth c ls hx hb hml hown hts hr hlocks hA hK hP hD hS hl Q hQ
  have hl : lv_has ls 3 [(0, .ref (a 0))] := hl
  have hown : s.vm.findClass RX8 = some m.cls := hown
  refine lv_aload_n hx hb dX8_readsItem_0 rfl (lv_at hl 0 rfl) ?_
  refine va_get (D := (dC, dI)) (ci := 8) (v := .int (I 4)) (C := RX8) (T := TX8) (N := 19) hx hb hts inX8_readsItem_X8 hown hK hP 0 (eM_0 a cy I A T) rfl 13 (by decide) (hts _ mX8_readsItem_0) (fun _ h9 => h9) rfl dX8_readsItem_1 ?_
  refine lv_iconst (v := 1) hx hb dX8_readsItem_4 (by decide) ?_
  refine lv_icmp_ne (tgt := 15) hx hb dX8_readsItem_5 (by decide) (fun c1 => ?_) (fun c1 => ?_)
  · replace h := ite_f h c1
    refine lv_iconst (v := 0) hx hb dX8_readsItem_15 (by decide) ?_
    refine lv_istore_n (lv' := [(1, .int 0), (0, .ref (a 0))]) hx hb dX8_readsItem_16 rfl hl (by decide) rfl (fun ls hl => ?_)
    refine lv_aload_n hx hb dX8_readsItem_17 rfl (lv_at hl 1 rfl) ?_
    refine va_get (D := (dC, dI)) (ci := 8) (v := .ref (a 3)) (C := RX8) (T := TX8) (N := 19) hx hb hts inX8_readsItem_X8 hown hK hP 0 (eM_0 a cy I A T) rfl 4 (by decide) (hts _ mX8_readsItem_1) (fun _ h9 => h9) rfl dX8_readsItem_18 ?_
    refine lv_iconst (v := 0) hx hb dX8_readsItem_21 (by decide) ?_
    refine g_iald (f := (A 2)) (j := 0) hx hb hK hP 3 (eM_3 a cy I A T) (lit_in (by decide) : vp_in 0 23) rfl dX8_readsItem_22 ?_
    refine lv_istore_n (lv' := [(2, .int ((A 2) 0)), (1, .int 0), (0, .ref (a 0))]) hx hb dX8_readsItem_23 rfl hl (by decide) rfl (fun ls hl => ?_)
    refine lv_iload_n hx hb dX8_readsItem_24 rfl (lv_at hl 1 rfl) ?_
    refine lv_lookup (off := 116) (tgt := 141) hx hb dX8_readsItem_25 (by decide) rfl (by decide) ?_
    refine lv_iconst (v := 0) hx hb dX8_readsItem_141 (by decide) ?_
    obtain rfl := Option.some.inj h
    exact g_zret hx hb hr (by decide) hK hP hD hS hQ dX8_readsItem_142
  · replace h := ite_t h c1
    refine lv_aload_n hx hb dX8_readsItem_8 rfl (lv_at hl 0 rfl) ?_
    refine va_get (D := (dC, dI)) (ci := 8) (v := .int (I 6)) (C := RX8) (T := TX8) (N := 19) hx hb hts inX8_readsItem_X8 hown hK hP 0 (eM_0 a cy I A T) rfl 15 (by decide) (hts _ mX8_readsItem_2) (fun _ h9 => h9) rfl dX8_readsItem_9 ?_
    refine lv_goto (tgt := 16) hx hb dX8_readsItem_12 (by decide) ?_
    refine lv_istore_n (lv' := [(1, .int (I 6)), (0, .ref (a 0))]) hx hb dX8_readsItem_16 rfl hl (by decide) rfl (fun ls hl => ?_)
    refine lv_aload_n hx hb dX8_readsItem_17 rfl (lv_at hl 1 rfl) ?_
    refine va_get (D := (dC, dI)) (ci := 8) (v := .ref (a 3)) (C := RX8) (T := TX8) (N := 19) hx hb hts inX8_readsItem_X8 hown hK hP 0 (eM_0 a cy I A T) rfl 4 (by decide) (hts _ mX8_readsItem_1) (fun _ h9 => h9) rfl dX8_readsItem_18 ?_
    refine lv_iconst (v := 0) hx hb dX8_readsItem_21 (by decide) ?_
    refine g_iald (f := (A 2)) (j := 0) hx hb hK hP 3 (eM_3 a cy I A T) (lit_in (by decide) : vp_in 0 23) rfl dX8_readsItem_22 ?_
    refine lv_istore_n (lv' := [(2, .int ((A 2) 0)), (1, .int (I 6)), (0, .ref (a 0))]) hx hb dX8_readsItem_23 rfl hl (by decide) rfl (fun ls hl => ?_)
    refine lv_iload_n hx hb dX8_readsItem_24 rfl (lv_at hl 1 rfl) ?_
    rcases Decidable.em ((I 6) = 98) with c2 | c2
    · replace h := ite_t h c2
      refine lv_lookup (off := 35) (tgt := 60) hx hb dX8_readsItem_25 (by decide) (by rw [c2]; rfl) (by decide) ?_
      refine lv_iload_n hx hb dX8_readsItem_60 rfl (lv_at hl 0 rfl) ?_
      refine lv_bipush (v := 6) hx hb dX8_readsItem_61 (by decide) ?_
      refine lv_icmp_eq (tgt := 107) hx hb dX8_readsItem_63 (by decide) (fun c3 => ?_) (fun c3 => ?_)
      · replace h := ite_t h c3
        refine lv_iconst (v := 0) hx hb dX8_readsItem_107 (by decide) ?_
        obtain rfl := Option.some.inj h
        exact g_zret hx hb hr (by decide) hK hP hD hS hQ dX8_readsItem_108
      · replace h := ite_f h c3
        refine lv_aload_n hx hb dX8_readsItem_66 rfl (lv_at hl 2 rfl) ?_
        refine lv_iconst (v := 5) hx hb dX8_readsItem_67 (by decide) ?_
        refine lv_iload_n hx hb dX8_readsItem_68 rfl (lv_at hl 0 rfl) ?_
        refine lv_iadd hx hb dX8_readsItem_69 ?_
        refine lv_iconst (v := 0) hx hb dX8_readsItem_70 (by decide) ?_
        refine lv_bipush (v := 99) hx hb dX8_readsItem_71 (by decide) ?_
        obtain ⟨r4, hr4, h⟩ := bnd_some h
        refine g_callVi (As := [.int (5 + ((A 2) 0)), .int 0, .int 99]) (rest := []) (ci := 8) (q0 := 0) hx hb hml hown hts (c_X8_number_M l dC dI a cy N I A T (5 + ((A 2) 0)) 0 99 r4 hr4) (cwV 3 hts gX8_readsItem_X8_number rfl rfl rfl (by decide +kernel) ⟨Nat.le_of_ble_eq_true rfl, Nat.le_of_ble_eq_true rfl⟩) hK hP hD hS hA rfl (eM_0 a cy I A T) rfl rfl hl.1 rfl (Nat.le_of_ble_eq_true rfl) dX8_readsItem_73 (fun H locs hP hD hS => ?_)
        refine lv_if_eq (tgt := 107) hx hb dX8_readsItem_76 (by decide) (fun c5 => ?_) (fun c5 => ?_)
        · replace h := ite_t h c5
          refine lv_iconst (v := 0) hx hb dX8_readsItem_107 (by decide) ?_
          obtain rfl := Option.some.inj h
          exact g_zret hx hb hr (by decide) hK hP hD hS hQ dX8_readsItem_108
        · replace h := ite_f h c5
          refine lv_aload_n hx hb dX8_readsItem_79 rfl (lv_at hl 2 rfl) ?_
          refine lv_bipush (v := 11) hx hb dX8_readsItem_80 (by decide) ?_
          refine lv_iload_n hx hb dX8_readsItem_82 rfl (lv_at hl 0 rfl) ?_
          refine lv_iadd hx hb dX8_readsItem_83 ?_
          refine lv_iconst (v := 1) hx hb dX8_readsItem_84 (by decide) ?_
          refine lv_bipush (v := 9) hx hb dX8_readsItem_85 (by decide) ?_
          obtain ⟨r6, hr6, h⟩ := bnd_some h
          refine g_callVi (As := [.int (11 + ((A 2) 0)), .int 1, .int 9]) (rest := []) (ci := 8) (q0 := 0) hx hb hml hown hts (c_X8_number_M l dC dI a cy N r4.2.1 r4.2.2 T (11 + ((A 2) 0)) 1 9 r6 hr6) (cwV 3 hts gX8_readsItem_X8_number rfl rfl rfl (by decide +kernel) ⟨Nat.le_of_ble_eq_true rfl, Nat.le_of_ble_eq_true rfl⟩) hK hP hD hS hA rfl (eM_0 a cy r4.2.1 r4.2.2 T) rfl rfl hl.1 rfl (Nat.le_of_ble_eq_true rfl) dX8_readsItem_87 (fun H locs hP hD hS => ?_)
          refine lv_if_eq (tgt := 107) hx hb dX8_readsItem_90 (by decide) (fun c7 => ?_) (fun c7 => ?_)
          · replace h := ite_t h c7
            refine lv_iconst (v := 0) hx hb dX8_readsItem_107 (by decide) ?_
            obtain rfl := Option.some.inj h
            exact g_zret hx hb hr (by decide) hK hP hD hS hQ dX8_readsItem_108
          · replace h := ite_f h c7
            refine lv_aload_n hx hb dX8_readsItem_93 rfl (lv_at hl 2 rfl) ?_
            refine lv_bipush (v := 17) hx hb dX8_readsItem_94 (by decide) ?_
            refine lv_iload_n hx hb dX8_readsItem_96 rfl (lv_at hl 0 rfl) ?_
            refine lv_iadd hx hb dX8_readsItem_97 ?_
            refine lv_iconst (v := 0) hx hb dX8_readsItem_98 (by decide) ?_
            refine lv_bipush (v := 99) hx hb dX8_readsItem_99 (by decide) ?_
            obtain ⟨r8, hr8, h⟩ := bnd_some h
            refine g_callVi (As := [.int (17 + ((A 2) 0)), .int 0, .int 99]) (rest := []) (ci := 8) (q0 := 0) hx hb hml hown hts (c_X8_number_M l dC dI a cy N r6.2.1 r6.2.2 T (17 + ((A 2) 0)) 0 99 r8 hr8) (cwV 3 hts gX8_readsItem_X8_number rfl rfl rfl (by decide +kernel) ⟨Nat.le_of_ble_eq_true rfl, Nat.le_of_ble_eq_true rfl⟩) hK hP hD hS hA rfl (eM_0 a cy r6.2.1 r6.2.2 T) rfl rfl hl.1 rfl (Nat.le_of_ble_eq_true rfl) dX8_readsItem_101 (fun H locs hP hD hS => ?_)
            refine lv_if_ne (tgt := 109) hx hb dX8_readsItem_104 (by decide) (fun c9 => ?_) (fun c9 => ?_)
            · replace h := ite_f h c9
              refine lv_aload_n hx hb dX8_readsItem_109 rfl (lv_at hl 2 rfl) ?_
              refine va_get (D := (dC, dI)) (ci := 8) (v := .ref (a 3)) (C := RX8) (T := TX8) (N := 19) hx hb hts inX8_readsItem_X8 hown hK hP 0 (eM_0 a cy r8.2.1 r8.2.2 T) rfl 4 (by decide) (hts _ mX8_readsItem_1) (fun _ h9 => h9) rfl dX8_readsItem_110 ?_
              refine lv_iconst (v := 0) hx hb dX8_readsItem_113 (by decide) ?_
              refine lv_dup2_11 hx hb dX8_readsItem_114 rfl rfl ?_
              refine g_iald (f := (r8.2.2 2)) (j := 0) hx hb hK hP 3 (eM_3 a cy r8.2.1 r8.2.2 T) (lit_in (by decide) : vp_in 0 23) rfl dX8_readsItem_115 ?_
              refine lv_iconst (v := 1) hx hb dX8_readsItem_116 (by decide) ?_
              refine lv_iadd hx hb dX8_readsItem_117 ?_
              refine g_iast (f := (r8.2.2 2)) (j := 0) hx hb hK hP hD hS 3 (eM_3 a cy r8.2.1 r8.2.2 T) (lit_in (by decide) : vp_in 0 23) rfl dX8_readsItem_118 (sM_3 a cy r8.2.1 r8.2.2 T (upd (r8.2.2 2) 0 (((r8.2.2 2) 0) + 1))) (fun H locs hP hD hS => ?_)
              refine lv_iconst (v := 1) hx hb dX8_readsItem_119 (by decide) ?_
              obtain rfl := Option.some.inj h
              exact g_zret hx hb hr (by decide) hK hP hD hS hQ dX8_readsItem_120
            · replace h := ite_t h c9
              refine lv_iconst (v := 0) hx hb dX8_readsItem_107 (by decide) ?_
              obtain rfl := Option.some.inj h
              exact g_zret hx hb hr (by decide) hK hP hD hS hQ dX8_readsItem_108
    · replace h := ite_f h c2
      rcases Decidable.em ((I 6) = 107) with c10 | c10
      · replace h := ite_t h c10
        refine lv_lookup (off := 96) (tgt := 121) hx hb dX8_readsItem_25 (by decide) (by rw [c10]; rfl) (by decide) ?_
        refine lv_aload_n hx hb dX8_readsItem_121 rfl (lv_at hl 2 rfl) ?_
        refine lv_iconst (v := 1) hx hb dX8_readsItem_122 (by decide) ?_
        refine lv_iconst (v := 1) hx hb dX8_readsItem_123 (by decide) ?_
        refine lv_iconst (v := 0) hx hb dX8_readsItem_124 (by decide) ?_
        refine lv_bipush (v := 60) hx hb dX8_readsItem_125 (by decide) ?_
        obtain ⟨r11, hr11, h⟩ := bnd_some h
        refine g_callVi (As := [.int 1, .int 1, .int 0, .int 60]) (rest := []) (ci := 8) (q0 := 0) hx hb hml hown hts (c_X8_once_M l dC dI a cy N I A T 1 1 0 60 r11 hr11) (cwV 4 hts gX8_readsItem_X8_once rfl rfl rfl (by decide +kernel) ⟨Nat.le_of_ble_eq_true rfl, Nat.le_of_ble_eq_true rfl⟩) hK hP hD hS hA rfl (eM_0 a cy I A T) rfl rfl hl.1 rfl (Nat.le_of_ble_eq_true rfl) dX8_readsItem_127 (fun H locs hP hD hS => ?_)
        obtain ⟨b12, h⟩ := bool_some h
        obtain rfl := Option.some.inj h
        exact g_zret hx hb hr b12 hK hP hD hS hQ dX8_readsItem_130
      · replace h := ite_f h c10
        rcases Decidable.em ((I 6) = 112) with c13 | c13
        · replace h := ite_t h c13
          refine lv_lookup (off := 106) (tgt := 131) hx hb dX8_readsItem_25 (by decide) (by rw [c13]; rfl) (by decide) ?_
          refine lv_aload_n hx hb dX8_readsItem_131 rfl (lv_at hl 2 rfl) ?_
          refine lv_iconst (v := 2) hx hb dX8_readsItem_132 (by decide) ?_
          refine lv_iconst (v := 2) hx hb dX8_readsItem_133 (by decide) ?_
          refine lv_iconst (v := 1) hx hb dX8_readsItem_134 (by decide) ?_
          refine lv_bipush (v := 30) hx hb dX8_readsItem_135 (by decide) ?_
          obtain ⟨r14, hr14, h⟩ := bnd_some h
          refine g_callVi (As := [.int 2, .int 2, .int 1, .int 30]) (rest := []) (ci := 8) (q0 := 0) hx hb hml hown hts (c_X8_once_M l dC dI a cy N I A T 2 2 1 30 r14 hr14) (cwV 4 hts gX8_readsItem_X8_once rfl rfl rfl (by decide +kernel) ⟨Nat.le_of_ble_eq_true rfl, Nat.le_of_ble_eq_true rfl⟩) hK hP hD hS hA rfl (eM_0 a cy I A T) rfl rfl hl.1 rfl (Nat.le_of_ble_eq_true rfl) dX8_readsItem_137 (fun H locs hP hD hS => ?_)
          obtain ⟨b15, h⟩ := bool_some h
          obtain rfl := Option.some.inj h
          exact g_zret hx hb hr b15 hK hP hD hS hQ dX8_readsItem_140
        · replace h := ite_f h c13
          refine lv_lookup (off := 116) (tgt := 141) hx hb dX8_readsItem_25 (by decide) ((lv_osw c2 rfl).trans ((lv_osw c10 rfl).trans ((lv_osw c13 rfl).trans rfl))) (by decide) ?_
          refine lv_iconst (v := 0) hx hb dX8_readsItem_141 (by decide) ?_
          obtain rfl := Option.some.inj h
          exact g_zret hx hb hr (by decide) hK hP hD hS hQ dX8_readsItem_142
theorem inX8_reads_X8 : ∀ w ∈ u_ws RX8 TX8 19, w ∈ wsX8_reads := by decide +kernel
theorem mX8_reads_0 : Cond.fieldLink RX8 16 "WarmBottlesModel" "draft" "[I" ∈ wsX8_reads := List.mem_of_getElem? (i := 1) rfl
theorem mX8_reads_1 : Cond.fieldLink RX8 59 "WarmBottlesModel" "at" "I" ∈ wsX8_reads := List.mem_of_getElem? (i := 2) rfl
theorem mX8_reads_2 : Cond.fieldLink RX8 73 "WarmBottlesModel" "sort" "I" ∈ wsX8_reads := List.mem_of_getElem? (i := 3) rfl
def rm_X8_reads_M : Room := { frames := 15, cells := 0, slots := 0, locals := 570 }
def f_X8_reads_M_L46 (N : Nat) (k_46 : (Nat → Int32) → (Nat → Nat → Int32) → Option (Int32 × (Nat → Int32) × (Nat → Nat → Int32)))  : Nat → (Nat → Int32) → (Nat → Nat → Int32) → Option (Int32 × (Nat → Int32) × (Nat → Nat → Int32))
  | 0, _, _ => none
  | n_46 + 1, I_46, A_46 => (if (I_46 4) = 0 then (k_46 I_46 A_46) else (Option.bind (f_X8_readsItem_M N I_46 A_46) (fun r3 => (if r3.1 = 0 then some (0, r3.2.1, r3.2.2) else (Option.bind (f_X8_token_M N r3.2.1 r3.2.2) (fun r5 => (if (r5 4) = 3 then (Option.bind (f_X8_token_M N r5 (va_up r3.2.2 2 (upd (r3.2.2 2) 3 (((r3.2.2 2) 3) + 1)))) (fun r7 => (f_X8_reads_M_L46 N k_46  n_46 r7 (va_up r3.2.2 2 (upd (r3.2.2 2) 3 (((r3.2.2 2) 3) + 1)))))) else some (0, r5, r3.2.2))))))))
def f_X8_reads_M_L2 (N : Nat) (k_2 : Int32 → (Nat → Nat → Int32) → Option (Int32 × (Nat → Int32) × (Nat → Nat → Int32))) (I : (Nat → Int32)) : Nat → Int32 → (Nat → Nat → Int32) → Option (Int32 × (Nat → Int32) × (Nat → Nat → Int32))
  | 0, _, _ => none
  | n_2 + 1, x1, A_2 => (if 23 ≤ x1 then (k_2 x1 A_2) else (if x1 < 0 ∨ 23 ≤ x1.toNatClampNeg then none else (f_X8_reads_M_L2 N k_2 I n_2 (x1 + 1) (va_up A_2 2 (upd (A_2 2) x1.toNatClampNeg 0)))))
def f_X8_reads_M (N : Nat) (I : Nat → Int32) (A : Nat → Nat → Int32)  : Option (Int32 × (Nat → Int32) × (Nat → Nat → Int32)) := (f_X8_reads_M_L2 N (fun (x1 : Int32) (A_2 : (Nat → Nat → Int32)) => (Option.bind (f_X8_token_M N (upd I 3 0) (va_up (va_up A_2 2 (upd (A_2 2) 1 10)) 2 (upd (upd (A_2 2) 1 10) 2 10))) (fun r1 => (f_X8_reads_M_L46 N (fun (I_46 : (Nat → Int32)) (A_46 : (Nat → Nat → Int32)) => some (1, I_46, A_46))  N r1 (va_up (va_up A_2 2 (upd (A_2 2) 1 10)) 2 (upd (upd (A_2 2) 1 10) 2 10)))))) I N 0 A)
set_option maxHeartbeats 4000000 in
set_option maxRecDepth 100000 in
theorem c_X8_reads_M (l : Launch) (dC : Nat → ClassId) (dI : Nat → Nat → Nat) (a : Nat → Nat) (cy : Nat → ClassId) (N : Nat) (I : Nat → Int32) (A : Nat → Nat → Int32) (T : Int64)  (res : Int32 × (Nat → Int32) × (Nat → Nat → Int32)) (h : f_X8_reads_M N I A  = some res) (sz : Nat) : Met l yX8_reads wsX8_reads rm_X8_reads_M (g_Pre (dC, dI) cy [.ref (a 0)] (wM a cy I A T) sz) (g_Qi (dC, dI) cy res.1 (wM a cy I A T) (wM a cy res.2.1 res.2.2 T) sz) 0 0 (va_A (wM a cy I A T) sz) := by
  unfold f_X8_reads_M at h
  refine g_entry _ _ _ _ _ _ (cc := cX8_reads) (maxL := 2) (ret := (some .boolean)) (by decide) rfl (Nat.le_of_ble_eq_true rfl) ?_
  intro p e s m args below meth c ls hx hb hml hown hts hr hlocks hA hK hP hD hS hl Q hQ
  have hl : lv_has ls 2 [(0, .ref (a 0))] := hl
  have hown : s.vm.findClass RX8 = some m.cls := hown
  refine lv_iconst (v := 0) hx hb dX8_reads_0 (by decide) ?_
  refine lv_istore_n (lv' := [(1, .int 0), (0, .ref (a 0))]) hx hb dX8_reads_1 rfl hl (by decide) rfl (fun ls hl => ?_)
  have lp2 : ∀  (k_2 : Int32 → (Nat → Nat → Int32) → Option (Int32 × (Nat → Int32) × (Nat → Nat → Int32))), (∀ (x1 : Int32) (A_2 : (Nat → Nat → Int32)), k_2 x1 A_2 = some res → g_At (dC, dI) p l e (headSpec wsX8_reads rm_X8_reads_M).room s m args below meth c Q (wM a cy I A T) sz 2 (wM a cy I A_2 T) [(0, .ref (a 0))] 21 []) → ∀ (n_2 : Nat) (x1 : Int32) (A_2 : (Nat → Nat → Int32)), f_X8_reads_M_L2 N k_2 I n_2 x1 A_2 = some res → g_At (dC, dI) p l e (headSpec wsX8_reads rm_X8_reads_M).room s m args below meth c Q (wM a cy I A T) sz 2 (wM a cy I A_2 T) [(0, .ref (a 0)), (1, .int x1)] 2 [] := by
    intro  k_2 hk_2 n_2
    induction n_2 with
    | zero =>
      intro x1 A_2 h
      exact absurd h (by rw [f_X8_reads_M_L2]; exact fun q => by cases q)
    | succ n_2 ih2 =>
      intro x1 A_2 h H locs hP hD hS ls hl
      rw [f_X8_reads_M_L2] at h
      refine lv_iload_n hx hb dX8_reads_2 rfl (lv_at hl 1 rfl) ?_
      refine lv_bipush (v := 23) hx hb dX8_reads_3 (by decide) ?_
      refine lv_icmp_ge (tgt := 21) hx hb dX8_reads_5 (by decide) (fun c8 => ?_) (fun c8 => ?_)
      · replace h := ite_t h c8
        exact hk_2 _ _ h _ _ hP hD hS _ (lv_sub hl [0] rfl)
      · replace h := ite_f h c8
        refine lv_aload_n hx hb dX8_reads_8 rfl (lv_at hl 0 rfl) ?_
        refine va_get (D := (dC, dI)) (ci := 8) (v := .ref (a 3)) (C := RX8) (T := TX8) (N := 19) hx hb hts inX8_reads_X8 hown hK hP 0 (eM_0 a cy I A_2 T) rfl 4 (by decide) (hts _ mX8_reads_0) (fun _ h9 => h9) rfl dX8_reads_9 ?_
        refine lv_iload_n hx hb dX8_reads_12 rfl (lv_at hl 1 rfl) ?_
        refine lv_iconst (v := 0) hx hb dX8_reads_13 (by decide) ?_
        obtain ⟨i9, h⟩ := inb_some h
        refine g_iast (f := (A_2 2)) (j := x1.toNatClampNeg) hx hb hK hP hD hS 3 (eM_3 a cy I A_2 T) i9 rfl dX8_reads_14 (sM_3 a cy I A_2 T (upd (A_2 2) x1.toNatClampNeg 0)) (fun H locs hP hD hS => ?_)
        refine lv_iinc (v := (x1 + 1)) (lv' := [(1, .int (x1 + 1)), (0, .ref (a 0))]) hx hb dX8_reads_15 hl (k := 1) rfl rfl (by decide) rfl (fun ls hl => ?_)
        refine lv_goto (tgt := 2) hx hb dX8_reads_18 (by decide) ?_
        exact ih2 _ _ h _ _ hP hD hS _ (lv_sub hl [1, 0] rfl)
  refine lp2  _ ?_ N _ _ h _ _ hP hD hS _ (lv_sub hl [1, 0] rfl)
  intro x1 A_2 h H locs hP hD hS ls hl
  refine lv_aload_n hx hb dX8_reads_21 rfl (lv_at hl 0 rfl) ?_
  refine va_get (D := (dC, dI)) (ci := 8) (v := .ref (a 3)) (C := RX8) (T := TX8) (N := 19) hx hb hts inX8_reads_X8 hown hK hP 0 (eM_0 a cy I A_2 T) rfl 4 (by decide) (hts _ mX8_reads_0) (fun _ h9 => h9) rfl dX8_reads_22 ?_
  refine lv_iconst (v := 1) hx hb dX8_reads_25 (by decide) ?_
  refine lv_bipush (v := 10) hx hb dX8_reads_26 (by decide) ?_
  refine g_iast (f := (A_2 2)) (j := 1) hx hb hK hP hD hS 3 (eM_3 a cy I A_2 T) (lit_in (by decide) : vp_in 1 23) rfl dX8_reads_28 (sM_3 a cy I A_2 T (upd (A_2 2) 1 10)) (fun H locs hP hD hS => ?_)
  refine lv_aload_n hx hb dX8_reads_29 rfl (lv_at hl 0 rfl) ?_
  refine va_get (D := (dC, dI)) (ci := 8) (v := .ref (a 3)) (C := RX8) (T := TX8) (N := 19) hx hb hts inX8_reads_X8 hown hK hP 0 (eM_0 a cy I (va_up A_2 2 (upd (A_2 2) 1 10)) T) rfl 4 (by decide) (hts _ mX8_reads_0) (fun _ h9 => h9) rfl dX8_reads_30 ?_
  refine lv_iconst (v := 2) hx hb dX8_reads_33 (by decide) ?_
  refine lv_bipush (v := 10) hx hb dX8_reads_34 (by decide) ?_
  refine g_iast (f := (upd (A_2 2) 1 10)) (j := 2) hx hb hK hP hD hS 3 (eM_3 a cy I (va_up A_2 2 (upd (A_2 2) 1 10)) T) (lit_in (by decide) : vp_in 2 23) rfl dX8_reads_36 (sM_3 a cy I (va_up A_2 2 (upd (A_2 2) 1 10)) T (upd (upd (A_2 2) 1 10) 2 10)) (fun H locs hP hD hS => ?_)
  refine lv_aload_n hx hb dX8_reads_37 rfl (lv_at hl 0 rfl) ?_
  refine lv_iconst (v := 0) hx hb dX8_reads_38 (by decide) ?_
  refine g_put (D := (dC, dI)) (ci := 8) (v := .int 0) (ty := .int) (C := RX8) (T := TX8) (N := 19) hx hb hts inX8_reads_X8 tyX8 tyX8_ok nmX8 hown hK hP hD hS 0 (eM_0 a cy I (va_up (va_up A_2 2 (upd (A_2 2) 1 10)) 2 (upd (upd (A_2 2) 1 10) 2 10)) T) rfl 12 (by decide) (hts _ mX8_reads_1) (fun _ h9 => h9) rfl (by decide +kernel) rfl rfl (Nat.le_of_ble_eq_true rfl) dX8_reads_39 (pM_0_12 a cy I (va_up (va_up A_2 2 (upd (A_2 2) 1 10)) 2 (upd (upd (A_2 2) 1 10) 2 10)) T 0) (fun H locs hP hD hS => ?_)
  refine lv_aload_n hx hb dX8_reads_42 rfl (lv_at hl 0 rfl) ?_
  obtain ⟨r1, hr1, h⟩ := bnd_some h
  refine g_callVv (As := []) (rest := []) (ci := 8) (q0 := 0) hx hb hml hown hts (c_X8_token_M l dC dI a cy N (upd I 3 0) (va_up (va_up A_2 2 (upd (A_2 2) 1 10)) 2 (upd (upd (A_2 2) 1 10) 2 10)) T r1 hr1) (cwV 0 hts gX8_reads_X8_token rfl rfl rfl (by decide +kernel) ⟨Nat.le_of_ble_eq_true rfl, Nat.le_of_ble_eq_true rfl⟩) hK hP hD hS hA rfl (eM_0 a cy (upd I 3 0) (va_up (va_up A_2 2 (upd (A_2 2) 1 10)) 2 (upd (upd (A_2 2) 1 10) 2 10)) T) rfl rfl hl.1 rfl (Nat.le_of_ble_eq_true rfl) dX8_reads_43 (fun H locs hP hD hS => ?_)
  have lp46 : ∀  (k_46 : (Nat → Int32) → (Nat → Nat → Int32) → Option (Int32 × (Nat → Int32) × (Nat → Nat → Int32))), (∀ (I_46 : (Nat → Int32)) (A_46 : (Nat → Nat → Int32)), k_46 I_46 A_46 = some res → g_At (dC, dI) p l e (headSpec wsX8_reads rm_X8_reads_M).room s m args below meth c Q (wM a cy I A T) sz 2 (wM a cy I_46 A_46 T) [] 93 []) → ∀ (n_46 : Nat) (I_46 : (Nat → Int32)) (A_46 : (Nat → Nat → Int32)), f_X8_reads_M_L46 N k_46  n_46 I_46 A_46 = some res → g_At (dC, dI) p l e (headSpec wsX8_reads rm_X8_reads_M).room s m args below meth c Q (wM a cy I A T) sz 2 (wM a cy I_46 A_46 T) [(0, .ref (a 0))] 46 [] := by
    intro  k_46 hk_46 n_46
    induction n_46 with
    | zero =>
      intro I_46 A_46 h
      exact absurd h (by rw [f_X8_reads_M_L46]; exact fun q => by cases q)
    | succ n_46 ih46 =>
      intro I_46 A_46 h H locs hP hD hS ls hl
      rw [f_X8_reads_M_L46] at h
      refine lv_aload_n hx hb dX8_reads_46 rfl (lv_at hl 0 rfl) ?_
      refine va_get (D := (dC, dI)) (ci := 8) (v := .int (I_46 4)) (C := RX8) (T := TX8) (N := 19) hx hb hts inX8_reads_X8 hown hK hP 0 (eM_0 a cy I_46 A_46 T) rfl 13 (by decide) (hts _ mX8_reads_2) (fun _ h9 => h9) rfl dX8_reads_47 ?_
      refine lv_if_eq (tgt := 93) hx hb dX8_reads_50 (by decide) (fun c2 => ?_) (fun c2 => ?_)
      · replace h := ite_t h c2
        exact hk_46 _ _ h _ _ hP hD hS _ (lv_sub hl [] rfl)
      · replace h := ite_f h c2
        refine lv_aload_n hx hb dX8_reads_53 rfl (lv_at hl 0 rfl) ?_
        obtain ⟨r3, hr3, h⟩ := bnd_some h
        refine g_callVi (As := []) (rest := []) (ci := 8) (q0 := 0) hx hb hml hown hts (c_X8_readsItem_M l dC dI a cy N I_46 A_46 T r3 hr3) (cwV 0 hts gX8_reads_X8_readsItem rfl rfl rfl (by decide +kernel) ⟨Nat.le_of_ble_eq_true rfl, Nat.le_of_ble_eq_true rfl⟩) hK hP hD hS hA rfl (eM_0 a cy I_46 A_46 T) rfl rfl hl.1 rfl (Nat.le_of_ble_eq_true rfl) dX8_reads_54 (fun H locs hP hD hS => ?_)
        refine lv_if_ne (tgt := 62) hx hb dX8_reads_57 (by decide) (fun c4 => ?_) (fun c4 => ?_)
        · replace h := ite_f h c4
          refine lv_aload_n hx hb dX8_reads_62 rfl (lv_at hl 0 rfl) ?_
          obtain ⟨r5, hr5, h⟩ := bnd_some h
          refine g_callVv (As := []) (rest := []) (ci := 8) (q0 := 0) hx hb hml hown hts (c_X8_token_M l dC dI a cy N r3.2.1 r3.2.2 T r5 hr5) (cwV 0 hts gX8_reads_X8_token rfl rfl rfl (by decide +kernel) ⟨Nat.le_of_ble_eq_true rfl, Nat.le_of_ble_eq_true rfl⟩) hK hP hD hS hA rfl (eM_0 a cy r3.2.1 r3.2.2 T) rfl rfl hl.1 rfl (Nat.le_of_ble_eq_true rfl) dX8_reads_63 (fun H locs hP hD hS => ?_)
          refine lv_aload_n hx hb dX8_reads_66 rfl (lv_at hl 0 rfl) ?_
          refine va_get (D := (dC, dI)) (ci := 8) (v := .int (r5 4)) (C := RX8) (T := TX8) (N := 19) hx hb hts inX8_reads_X8 hown hK hP 0 (eM_0 a cy r5 r3.2.2 T) rfl 13 (by decide) (hts _ mX8_reads_2) (fun _ h9 => h9) rfl dX8_reads_67 ?_
          refine lv_iconst (v := 3) hx hb dX8_reads_70 (by decide) ?_
          refine lv_icmp_eq (tgt := 76) hx hb dX8_reads_71 (by decide) (fun c6 => ?_) (fun c6 => ?_)
          · replace h := ite_t h c6
            refine lv_aload_n hx hb dX8_reads_76 rfl (lv_at hl 0 rfl) ?_
            refine va_get (D := (dC, dI)) (ci := 8) (v := .ref (a 3)) (C := RX8) (T := TX8) (N := 19) hx hb hts inX8_reads_X8 hown hK hP 0 (eM_0 a cy r5 r3.2.2 T) rfl 4 (by decide) (hts _ mX8_reads_0) (fun _ h9 => h9) rfl dX8_reads_77 ?_
            refine lv_iconst (v := 3) hx hb dX8_reads_80 (by decide) ?_
            refine lv_dup2_11 hx hb dX8_reads_81 rfl rfl ?_
            refine g_iald (f := (r3.2.2 2)) (j := 3) hx hb hK hP 3 (eM_3 a cy r5 r3.2.2 T) (lit_in (by decide) : vp_in 3 23) rfl dX8_reads_82 ?_
            refine lv_iconst (v := 1) hx hb dX8_reads_83 (by decide) ?_
            refine lv_iadd hx hb dX8_reads_84 ?_
            refine g_iast (f := (r3.2.2 2)) (j := 3) hx hb hK hP hD hS 3 (eM_3 a cy r5 r3.2.2 T) (lit_in (by decide) : vp_in 3 23) rfl dX8_reads_85 (sM_3 a cy r5 r3.2.2 T (upd (r3.2.2 2) 3 (((r3.2.2 2) 3) + 1))) (fun H locs hP hD hS => ?_)
            refine lv_aload_n hx hb dX8_reads_86 rfl (lv_at hl 0 rfl) ?_
            obtain ⟨r7, hr7, h⟩ := bnd_some h
            refine g_callVv (As := []) (rest := []) (ci := 8) (q0 := 0) hx hb hml hown hts (c_X8_token_M l dC dI a cy N r5 (va_up r3.2.2 2 (upd (r3.2.2 2) 3 (((r3.2.2 2) 3) + 1))) T r7 hr7) (cwV 0 hts gX8_reads_X8_token rfl rfl rfl (by decide +kernel) ⟨Nat.le_of_ble_eq_true rfl, Nat.le_of_ble_eq_true rfl⟩) hK hP hD hS hA rfl (eM_0 a cy r5 (va_up r3.2.2 2 (upd (r3.2.2 2) 3 (((r3.2.2 2) 3) + 1))) T) rfl rfl hl.1 rfl (Nat.le_of_ble_eq_true rfl) dX8_reads_87 (fun H locs hP hD hS => ?_)
            refine lv_goto (tgt := 46) hx hb dX8_reads_90 (by decide) ?_
            exact ih46 _ _ h _ _ hP hD hS _ (lv_sub hl [0] rfl)
          · replace h := ite_f h c6
            refine lv_iconst (v := 0) hx hb dX8_reads_74 (by decide) ?_
            obtain rfl := Option.some.inj h
            exact g_zret hx hb hr (by decide) hK hP hD hS hQ dX8_reads_75
        · replace h := ite_t h c4
          refine lv_iconst (v := 0) hx hb dX8_reads_60 (by decide) ?_
          obtain rfl := Option.some.inj h
          exact g_zret hx hb hr (by decide) hK hP hD hS hQ dX8_reads_61
  refine lp46  _ ?_ N _ _ h _ _ hP hD hS _ (lv_sub hl [0] rfl)
  intro I_46 A_46 h H locs hP hD hS ls hl
  refine lv_iconst (v := 1) hx hb dX8_reads_93 (by decide) ?_
  obtain rfl := Option.some.inj h
  exact g_zret hx hb hr (by decide) hK hP hD hS hQ dX8_reads_94
theorem inX8_begins_X8 : ∀ w ∈ u_ws RX8 TX8 19, w ∈ wsX8_begins := by decide +kernel
theorem mX8_begins_0 : Cond.fieldLink RX8 19 "WarmBottlesModel" "s" "[I" ∈ wsX8_begins := List.mem_of_getElem? (i := 3) rfl
theorem mX8_begins_1 : Cond.fieldLink RX8 13 "WarmBottlesModel" "told" "[I" ∈ wsX8_begins := List.mem_of_getElem? (i := 1) rfl
theorem mX8_begins_2 : Cond.fieldLink RX8 92 "WarmBottlesModel" "known" "I" ∈ wsX8_begins := List.mem_of_getElem? (i := 4) rfl
theorem mX8_begins_3 : Cond.fieldLink RX8 95 "WarmBottlesModel" "noted" "I" ∈ wsX8_begins := List.mem_of_getElem? (i := 5) rfl
theorem mX8_begins_4 : Cond.fieldLink RX8 28 "WarmBottlesModel" "kept" "[Z" ∈ wsX8_begins := List.mem_of_getElem? (i := 6) rfl
theorem mX8_begins_5 : Cond.fieldLink RX8 16 "WarmBottlesModel" "draft" "[I" ∈ wsX8_begins := List.mem_of_getElem? (i := 2) rfl
def rm_X8_begins_M : Room := { frames := 3, cells := 0, slots := 0, locals := 210 }
def f_X8_begins_M_L54 (N : Nat) (k_54 : Int32 → (Nat → Nat → Int32) → Option ((Nat → Int32) × (Nat → Nat → Int32))) (I : (Nat → Int32)) : Nat → Int32 → (Nat → Nat → Int32) → Option ((Nat → Int32) × (Nat → Nat → Int32))
  | 0, _, _ => none
  | n_54 + 1, x1, A_54 => (if 6 ≤ x1 then (k_54 x1 A_54) else (if ((A_54 1) 0) ≤ x1 then (if (3 + x1) < 0 ∨ 15 ≤ ((3 + x1)).toNatClampNeg then none else (if (9 + x1) < 0 ∨ 15 ≤ ((9 + x1)).toNatClampNeg then none else (f_X8_begins_M_L54 N k_54 I n_54 (x1 + 1) (va_up (va_up A_54 3 (upd (A_54 3) ((3 + x1)).toNatClampNeg 0)) 3 (upd (upd (A_54 3) ((3 + x1)).toNatClampNeg 0) ((9 + x1)).toNatClampNeg x1))))) else (if (5 + x1) < 0 ∨ 23 ≤ ((5 + x1)).toNatClampNeg then none else (if (3 + x1) < 0 ∨ 15 ≤ ((3 + x1)).toNatClampNeg then none else (if (9 + x1) < 0 ∨ 15 ≤ ((9 + x1)).toNatClampNeg then none else (f_X8_begins_M_L54 N k_54 I n_54 (x1 + 1) (va_up (va_up A_54 3 (upd (A_54 3) ((3 + x1)).toNatClampNeg ((A_54 1) ((5 + x1)).toNatClampNeg))) 3 (upd (upd (A_54 3) ((3 + x1)).toNatClampNeg ((A_54 1) ((5 + x1)).toNatClampNeg)) ((9 + x1)).toNatClampNeg x1))))))))
def f_X8_begins_M_L2 (N : Nat) (k_2 : Int32 → (Nat → Nat → Int32) → Option ((Nat → Int32) × (Nat → Nat → Int32))) (I : (Nat → Int32)) : Nat → Int32 → (Nat → Nat → Int32) → Option ((Nat → Int32) × (Nat → Nat → Int32))
  | 0, _, _ => none
  | n_2 + 1, x1, A_2 => (if 23 ≤ x1 then (k_2 x1 A_2) else (if x1 < 0 ∨ 23 ≤ x1.toNatClampNeg then none else (f_X8_begins_M_L2 N k_2 I n_2 (x1 + 1) (va_up A_2 1 (upd (A_2 1) x1.toNatClampNeg ((A_2 2) x1.toNatClampNeg))))))
def f_X8_begins_M (N : Nat) (I : Nat → Int32) (A : Nat → Nat → Int32)  : Option ((Nat → Int32) × (Nat → Nat → Int32)) := (f_X8_begins_M_L2 N (fun (x1 : Int32) (A_2 : (Nat → Nat → Int32)) => (f_X8_begins_M_L54 N (fun (x1 : Int32) (A_54 : (Nat → Nat → Int32)) => some ((upd (upd I 1 0) 2 0), (va_up (va_up A_54 6 (upd (A_54 6) 0 (vp_nar .boolean 0))) 6 (upd (upd (A_54 6) 0 (vp_nar .boolean 0)) 1 (vp_nar .boolean 0))))) I N 0 (va_up (va_up (va_up A_2 3 (upd (A_2 3) 0 0)) 3 (upd (upd (A_2 3) 0 0) 1 0)) 3 (upd (upd (upd (A_2 3) 0 0) 1 0) 2 ((A_2 1) 1))))) I N 0 A)
set_option maxHeartbeats 4000000 in
set_option maxRecDepth 100000 in
theorem c_X8_begins_M (l : Launch) (dC : Nat → ClassId) (dI : Nat → Nat → Nat) (a : Nat → Nat) (cy : Nat → ClassId) (N : Nat) (I : Nat → Int32) (A : Nat → Nat → Int32) (T : Int64)  (res : (Nat → Int32) × (Nat → Nat → Int32)) (h : f_X8_begins_M N I A  = some res) (sz : Nat) : Met l yX8_begins wsX8_begins rm_X8_begins_M (g_Pre (dC, dI) cy [.ref (a 0)] (wM a cy I A T) sz) (g_Qv (dC, dI) cy (wM a cy I A T) (wM a cy res.1 res.2 T) sz) 0 0 (va_A (wM a cy I A T) sz) := by
  unfold f_X8_begins_M at h
  refine g_entry _ _ _ _ _ _ (cc := cX8_begins) (maxL := 2) (ret := none) (by decide) rfl (Nat.le_of_ble_eq_true rfl) ?_
  intro p e s m args below meth c ls hx hb hml hown hts hr hlocks hA hK hP hD hS hl Q hQ
  have hl : lv_has ls 2 [(0, .ref (a 0))] := hl
  have hown : s.vm.findClass RX8 = some m.cls := hown
  refine lv_iconst (v := 0) hx hb dX8_begins_0 (by decide) ?_
  refine lv_istore_n (lv' := [(1, .int 0), (0, .ref (a 0))]) hx hb dX8_begins_1 rfl hl (by decide) rfl (fun ls hl => ?_)
  have lp2 : ∀  (k_2 : Int32 → (Nat → Nat → Int32) → Option ((Nat → Int32) × (Nat → Nat → Int32))), (∀ (x1 : Int32) (A_2 : (Nat → Nat → Int32)), k_2 x1 A_2 = some res → g_At (dC, dI) p l e (headSpec wsX8_begins rm_X8_begins_M).room s m args below meth c Q (wM a cy I A T) sz 2 (wM a cy I A_2 T) [(0, .ref (a 0))] 26 []) → ∀ (n_2 : Nat) (x1 : Int32) (A_2 : (Nat → Nat → Int32)), f_X8_begins_M_L2 N k_2 I n_2 x1 A_2 = some res → g_At (dC, dI) p l e (headSpec wsX8_begins rm_X8_begins_M).room s m args below meth c Q (wM a cy I A T) sz 2 (wM a cy I A_2 T) [(0, .ref (a 0)), (1, .int x1)] 2 [] := by
    intro  k_2 hk_2 n_2
    induction n_2 with
    | zero =>
      intro x1 A_2 h
      exact absurd h (by rw [f_X8_begins_M_L2]; exact fun q => by cases q)
    | succ n_2 ih2 =>
      intro x1 A_2 h H locs hP hD hS ls hl
      rw [f_X8_begins_M_L2] at h
      refine lv_iload_n hx hb dX8_begins_2 rfl (lv_at hl 1 rfl) ?_
      refine lv_bipush (v := 23) hx hb dX8_begins_3 (by decide) ?_
      refine lv_icmp_ge (tgt := 26) hx hb dX8_begins_5 (by decide) (fun c8 => ?_) (fun c8 => ?_)
      · replace h := ite_t h c8
        exact hk_2 _ _ h _ _ hP hD hS _ (lv_sub hl [0] rfl)
      · replace h := ite_f h c8
        refine lv_aload_n hx hb dX8_begins_8 rfl (lv_at hl 0 rfl) ?_
        refine va_get (D := (dC, dI)) (ci := 8) (v := .ref (a 2)) (C := RX8) (T := TX8) (N := 19) hx hb hts inX8_begins_X8 hown hK hP 0 (eM_0 a cy I A_2 T) rfl 3 (by decide) (hts _ mX8_begins_1) (fun _ h9 => h9) rfl dX8_begins_9 ?_
        refine lv_iload_n hx hb dX8_begins_12 rfl (lv_at hl 1 rfl) ?_
        refine lv_aload_n hx hb dX8_begins_13 rfl (lv_at hl 0 rfl) ?_
        refine va_get (D := (dC, dI)) (ci := 8) (v := .ref (a 3)) (C := RX8) (T := TX8) (N := 19) hx hb hts inX8_begins_X8 hown hK hP 0 (eM_0 a cy I A_2 T) rfl 4 (by decide) (hts _ mX8_begins_5) (fun _ h9 => h9) rfl dX8_begins_14 ?_
        refine lv_iload_n hx hb dX8_begins_17 rfl (lv_at hl 1 rfl) ?_
        obtain ⟨i9, h⟩ := inb_some h
        refine g_iald (f := (A_2 2)) (j := x1.toNatClampNeg) hx hb hK hP 3 (eM_3 a cy I A_2 T) i9 rfl dX8_begins_18 ?_
        refine g_iast (f := (A_2 1)) (j := x1.toNatClampNeg) hx hb hK hP hD hS 2 (eM_2 a cy I A_2 T) i9 rfl dX8_begins_19 (sM_2 a cy I A_2 T (upd (A_2 1) x1.toNatClampNeg ((A_2 2) x1.toNatClampNeg))) (fun H locs hP hD hS => ?_)
        refine lv_iinc (v := (x1 + 1)) (lv' := [(1, .int (x1 + 1)), (0, .ref (a 0))]) hx hb dX8_begins_20 hl (k := 1) rfl rfl (by decide) rfl (fun ls hl => ?_)
        refine lv_goto (tgt := 2) hx hb dX8_begins_23 (by decide) ?_
        exact ih2 _ _ h _ _ hP hD hS _ (lv_sub hl [1, 0] rfl)
  refine lp2  _ ?_ N _ _ h _ _ hP hD hS _ (lv_sub hl [1, 0] rfl)
  intro x1 A_2 h H locs hP hD hS ls hl
  refine lv_aload_n hx hb dX8_begins_26 rfl (lv_at hl 0 rfl) ?_
  refine va_get (D := (dC, dI)) (ci := 8) (v := .ref (a 4)) (C := RX8) (T := TX8) (N := 19) hx hb hts inX8_begins_X8 hown hK hP 0 (eM_0 a cy I A_2 T) rfl 5 (by decide) (hts _ mX8_begins_0) (fun _ h9 => h9) rfl dX8_begins_27 ?_
  refine lv_iconst (v := 0) hx hb dX8_begins_30 (by decide) ?_
  refine lv_iconst (v := 0) hx hb dX8_begins_31 (by decide) ?_
  refine g_iast (f := (A_2 3)) (j := 0) hx hb hK hP hD hS 4 (eM_4 a cy I A_2 T) (lit_in (by decide) : vp_in 0 15) rfl dX8_begins_32 (sM_4 a cy I A_2 T (upd (A_2 3) 0 0)) (fun H locs hP hD hS => ?_)
  refine lv_aload_n hx hb dX8_begins_33 rfl (lv_at hl 0 rfl) ?_
  refine va_get (D := (dC, dI)) (ci := 8) (v := .ref (a 4)) (C := RX8) (T := TX8) (N := 19) hx hb hts inX8_begins_X8 hown hK hP 0 (eM_0 a cy I (va_up A_2 3 (upd (A_2 3) 0 0)) T) rfl 5 (by decide) (hts _ mX8_begins_0) (fun _ h9 => h9) rfl dX8_begins_34 ?_
  refine lv_iconst (v := 1) hx hb dX8_begins_37 (by decide) ?_
  refine lv_iconst (v := 0) hx hb dX8_begins_38 (by decide) ?_
  refine g_iast (f := (upd (A_2 3) 0 0)) (j := 1) hx hb hK hP hD hS 4 (eM_4 a cy I (va_up A_2 3 (upd (A_2 3) 0 0)) T) (lit_in (by decide) : vp_in 1 15) rfl dX8_begins_39 (sM_4 a cy I (va_up A_2 3 (upd (A_2 3) 0 0)) T (upd (upd (A_2 3) 0 0) 1 0)) (fun H locs hP hD hS => ?_)
  refine lv_aload_n hx hb dX8_begins_40 rfl (lv_at hl 0 rfl) ?_
  refine va_get (D := (dC, dI)) (ci := 8) (v := .ref (a 4)) (C := RX8) (T := TX8) (N := 19) hx hb hts inX8_begins_X8 hown hK hP 0 (eM_0 a cy I (va_up (va_up A_2 3 (upd (A_2 3) 0 0)) 3 (upd (upd (A_2 3) 0 0) 1 0)) T) rfl 5 (by decide) (hts _ mX8_begins_0) (fun _ h9 => h9) rfl dX8_begins_41 ?_
  refine lv_iconst (v := 2) hx hb dX8_begins_44 (by decide) ?_
  refine lv_aload_n hx hb dX8_begins_45 rfl (lv_at hl 0 rfl) ?_
  refine va_get (D := (dC, dI)) (ci := 8) (v := .ref (a 2)) (C := RX8) (T := TX8) (N := 19) hx hb hts inX8_begins_X8 hown hK hP 0 (eM_0 a cy I (va_up (va_up A_2 3 (upd (A_2 3) 0 0)) 3 (upd (upd (A_2 3) 0 0) 1 0)) T) rfl 3 (by decide) (hts _ mX8_begins_1) (fun _ h9 => h9) rfl dX8_begins_46 ?_
  refine lv_iconst (v := 1) hx hb dX8_begins_49 (by decide) ?_
  refine g_iald (f := (A_2 1)) (j := 1) hx hb hK hP 2 (eM_2 a cy I (va_up (va_up A_2 3 (upd (A_2 3) 0 0)) 3 (upd (upd (A_2 3) 0 0) 1 0)) T) (lit_in (by decide) : vp_in 1 23) rfl dX8_begins_50 ?_
  refine g_iast (f := (upd (upd (A_2 3) 0 0) 1 0)) (j := 2) hx hb hK hP hD hS 4 (eM_4 a cy I (va_up (va_up A_2 3 (upd (A_2 3) 0 0)) 3 (upd (upd (A_2 3) 0 0) 1 0)) T) (lit_in (by decide) : vp_in 2 15) rfl dX8_begins_51 (sM_4 a cy I (va_up (va_up A_2 3 (upd (A_2 3) 0 0)) 3 (upd (upd (A_2 3) 0 0) 1 0)) T (upd (upd (upd (A_2 3) 0 0) 1 0) 2 ((A_2 1) 1))) (fun H locs hP hD hS => ?_)
  refine lv_iconst (v := 0) hx hb dX8_begins_52 (by decide) ?_
  refine lv_istore_n (lv' := [(1, .int 0), (0, .ref (a 0))]) hx hb dX8_begins_53 rfl hl (by decide) rfl (fun ls hl => ?_)
  have lp54 : ∀  (k_54 : Int32 → (Nat → Nat → Int32) → Option ((Nat → Int32) × (Nat → Nat → Int32))), (∀ (x1 : Int32) (A_54 : (Nat → Nat → Int32)), k_54 x1 A_54 = some res → g_At (dC, dI) p l e (headSpec wsX8_begins rm_X8_begins_M).room s m args below meth c Q (wM a cy I A T) sz 2 (wM a cy I A_54 T) [(0, .ref (a 0))] 106 []) → ∀ (n_54 : Nat) (x1 : Int32) (A_54 : (Nat → Nat → Int32)), f_X8_begins_M_L54 N k_54 I n_54 x1 A_54 = some res → g_At (dC, dI) p l e (headSpec wsX8_begins rm_X8_begins_M).room s m args below meth c Q (wM a cy I A T) sz 2 (wM a cy I A_54 T) [(0, .ref (a 0)), (1, .int x1)] 54 [] := by
    intro  k_54 hk_54 n_54
    induction n_54 with
    | zero =>
      intro x1 A_54 h
      exact absurd h (by rw [f_X8_begins_M_L54]; exact fun q => by cases q)
    | succ n_54 ih54 =>
      intro x1 A_54 h H locs hP hD hS ls hl
      rw [f_X8_begins_M_L54] at h
      refine lv_iload_n hx hb dX8_begins_54 rfl (lv_at hl 1 rfl) ?_
      refine lv_bipush (v := 6) hx hb dX8_begins_55 (by decide) ?_
      refine lv_icmp_ge (tgt := 106) hx hb dX8_begins_57 (by decide) (fun c1 => ?_) (fun c1 => ?_)
      · replace h := ite_t h c1
        exact hk_54 _ _ h _ _ hP hD hS _ (lv_sub hl [0] rfl)
      · replace h := ite_f h c1
        refine lv_aload_n hx hb dX8_begins_60 rfl (lv_at hl 0 rfl) ?_
        refine va_get (D := (dC, dI)) (ci := 8) (v := .ref (a 4)) (C := RX8) (T := TX8) (N := 19) hx hb hts inX8_begins_X8 hown hK hP 0 (eM_0 a cy I A_54 T) rfl 5 (by decide) (hts _ mX8_begins_0) (fun _ h9 => h9) rfl dX8_begins_61 ?_
        refine lv_iconst (v := 3) hx hb dX8_begins_64 (by decide) ?_
        refine lv_iload_n hx hb dX8_begins_65 rfl (lv_at hl 1 rfl) ?_
        refine lv_iadd hx hb dX8_begins_66 ?_
        refine lv_iload_n hx hb dX8_begins_67 rfl (lv_at hl 1 rfl) ?_
        refine lv_aload_n hx hb dX8_begins_68 rfl (lv_at hl 0 rfl) ?_
        refine va_get (D := (dC, dI)) (ci := 8) (v := .ref (a 2)) (C := RX8) (T := TX8) (N := 19) hx hb hts inX8_begins_X8 hown hK hP 0 (eM_0 a cy I A_54 T) rfl 3 (by decide) (hts _ mX8_begins_1) (fun _ h9 => h9) rfl dX8_begins_69 ?_
        refine lv_iconst (v := 0) hx hb dX8_begins_72 (by decide) ?_
        refine g_iald (f := (A_54 1)) (j := 0) hx hb hK hP 2 (eM_2 a cy I A_54 T) (lit_in (by decide) : vp_in 0 23) rfl dX8_begins_73 ?_
        refine lv_icmp_ge (tgt := 88) hx hb dX8_begins_74 (by decide) (fun c2 => ?_) (fun c2 => ?_)
        · replace h := ite_t h c2
          refine lv_iconst (v := 0) hx hb dX8_begins_88 (by decide) ?_
          obtain ⟨i3, h⟩ := inb_some h
          refine g_iast (f := (A_54 3)) (j := ((3 + x1)).toNatClampNeg) hx hb hK hP hD hS 4 (eM_4 a cy I A_54 T) i3 rfl dX8_begins_89 (sM_4 a cy I A_54 T (upd (A_54 3) ((3 + x1)).toNatClampNeg 0)) (fun H locs hP hD hS => ?_)
          refine lv_aload_n hx hb dX8_begins_90 rfl (lv_at hl 0 rfl) ?_
          refine va_get (D := (dC, dI)) (ci := 8) (v := .ref (a 4)) (C := RX8) (T := TX8) (N := 19) hx hb hts inX8_begins_X8 hown hK hP 0 (eM_0 a cy I (va_up A_54 3 (upd (A_54 3) ((3 + x1)).toNatClampNeg 0)) T) rfl 5 (by decide) (hts _ mX8_begins_0) (fun _ h9 => h9) rfl dX8_begins_91 ?_
          refine lv_bipush (v := 9) hx hb dX8_begins_94 (by decide) ?_
          refine lv_iload_n hx hb dX8_begins_96 rfl (lv_at hl 1 rfl) ?_
          refine lv_iadd hx hb dX8_begins_97 ?_
          refine lv_iload_n hx hb dX8_begins_98 rfl (lv_at hl 1 rfl) ?_
          obtain ⟨i4, h⟩ := inb_some h
          refine g_iast (f := (upd (A_54 3) ((3 + x1)).toNatClampNeg 0)) (j := ((9 + x1)).toNatClampNeg) hx hb hK hP hD hS 4 (eM_4 a cy I (va_up A_54 3 (upd (A_54 3) ((3 + x1)).toNatClampNeg 0)) T) i4 rfl dX8_begins_99 (sM_4 a cy I (va_up A_54 3 (upd (A_54 3) ((3 + x1)).toNatClampNeg 0)) T (upd (upd (A_54 3) ((3 + x1)).toNatClampNeg 0) ((9 + x1)).toNatClampNeg x1)) (fun H locs hP hD hS => ?_)
          refine lv_iinc (v := (x1 + 1)) (lv' := [(1, .int (x1 + 1)), (0, .ref (a 0))]) hx hb dX8_begins_100 hl (k := 1) rfl rfl (by decide) rfl (fun ls hl => ?_)
          refine lv_goto (tgt := 54) hx hb dX8_begins_103 (by decide) ?_
          exact ih54 _ _ h _ _ hP hD hS _ (lv_sub hl [1, 0] rfl)
        · replace h := ite_f h c2
          refine lv_aload_n hx hb dX8_begins_77 rfl (lv_at hl 0 rfl) ?_
          refine va_get (D := (dC, dI)) (ci := 8) (v := .ref (a 2)) (C := RX8) (T := TX8) (N := 19) hx hb hts inX8_begins_X8 hown hK hP 0 (eM_0 a cy I A_54 T) rfl 3 (by decide) (hts _ mX8_begins_1) (fun _ h9 => h9) rfl dX8_begins_78 ?_
          refine lv_iconst (v := 5) hx hb dX8_begins_81 (by decide) ?_
          refine lv_iload_n hx hb dX8_begins_82 rfl (lv_at hl 1 rfl) ?_
          refine lv_iadd hx hb dX8_begins_83 ?_
          obtain ⟨i5, h⟩ := inb_some h
          refine g_iald (f := (A_54 1)) (j := ((5 + x1)).toNatClampNeg) hx hb hK hP 2 (eM_2 a cy I A_54 T) i5 rfl dX8_begins_84 ?_
          refine lv_goto (tgt := 89) hx hb dX8_begins_85 (by decide) ?_
          obtain ⟨i6, h⟩ := inb_some h
          refine g_iast (f := (A_54 3)) (j := ((3 + x1)).toNatClampNeg) hx hb hK hP hD hS 4 (eM_4 a cy I A_54 T) i6 rfl dX8_begins_89 (sM_4 a cy I A_54 T (upd (A_54 3) ((3 + x1)).toNatClampNeg ((A_54 1) ((5 + x1)).toNatClampNeg))) (fun H locs hP hD hS => ?_)
          refine lv_aload_n hx hb dX8_begins_90 rfl (lv_at hl 0 rfl) ?_
          refine va_get (D := (dC, dI)) (ci := 8) (v := .ref (a 4)) (C := RX8) (T := TX8) (N := 19) hx hb hts inX8_begins_X8 hown hK hP 0 (eM_0 a cy I (va_up A_54 3 (upd (A_54 3) ((3 + x1)).toNatClampNeg ((A_54 1) ((5 + x1)).toNatClampNeg))) T) rfl 5 (by decide) (hts _ mX8_begins_0) (fun _ h9 => h9) rfl dX8_begins_91 ?_
          refine lv_bipush (v := 9) hx hb dX8_begins_94 (by decide) ?_
          refine lv_iload_n hx hb dX8_begins_96 rfl (lv_at hl 1 rfl) ?_
          refine lv_iadd hx hb dX8_begins_97 ?_
          refine lv_iload_n hx hb dX8_begins_98 rfl (lv_at hl 1 rfl) ?_
          obtain ⟨i7, h⟩ := inb_some h
          refine g_iast (f := (upd (A_54 3) ((3 + x1)).toNatClampNeg ((A_54 1) ((5 + x1)).toNatClampNeg))) (j := ((9 + x1)).toNatClampNeg) hx hb hK hP hD hS 4 (eM_4 a cy I (va_up A_54 3 (upd (A_54 3) ((3 + x1)).toNatClampNeg ((A_54 1) ((5 + x1)).toNatClampNeg))) T) i7 rfl dX8_begins_99 (sM_4 a cy I (va_up A_54 3 (upd (A_54 3) ((3 + x1)).toNatClampNeg ((A_54 1) ((5 + x1)).toNatClampNeg))) T (upd (upd (A_54 3) ((3 + x1)).toNatClampNeg ((A_54 1) ((5 + x1)).toNatClampNeg)) ((9 + x1)).toNatClampNeg x1)) (fun H locs hP hD hS => ?_)
          refine lv_iinc (v := (x1 + 1)) (lv' := [(1, .int (x1 + 1)), (0, .ref (a 0))]) hx hb dX8_begins_100 hl (k := 1) rfl rfl (by decide) rfl (fun ls hl => ?_)
          refine lv_goto (tgt := 54) hx hb dX8_begins_103 (by decide) ?_
          exact ih54 _ _ h _ _ hP hD hS _ (lv_sub hl [1, 0] rfl)
  refine lp54  _ ?_ N _ _ h _ _ hP hD hS _ (lv_sub hl [1, 0] rfl)
  intro x1 A_54 h H locs hP hD hS ls hl
  refine lv_aload_n hx hb dX8_begins_106 rfl (lv_at hl 0 rfl) ?_
  refine lv_iconst (v := 0) hx hb dX8_begins_107 (by decide) ?_
  refine g_put (D := (dC, dI)) (ci := 8) (v := .int 0) (ty := .int) (C := RX8) (T := TX8) (N := 19) hx hb hts inX8_begins_X8 tyX8 tyX8_ok nmX8 hown hK hP hD hS 0 (eM_0 a cy I A_54 T) rfl 7 (by decide) (hts _ mX8_begins_2) (fun _ h9 => h9) rfl (by decide +kernel) rfl rfl (Nat.le_of_ble_eq_true rfl) dX8_begins_108 (pM_0_7 a cy I A_54 T 0) (fun H locs hP hD hS => ?_)
  refine lv_aload_n hx hb dX8_begins_111 rfl (lv_at hl 0 rfl) ?_
  refine lv_iconst (v := 0) hx hb dX8_begins_112 (by decide) ?_
  refine g_put (D := (dC, dI)) (ci := 8) (v := .int 0) (ty := .int) (C := RX8) (T := TX8) (N := 19) hx hb hts inX8_begins_X8 tyX8 tyX8_ok nmX8 hown hK hP hD hS 0 (eM_0 a cy (upd I 1 0) A_54 T) rfl 11 (by decide) (hts _ mX8_begins_3) (fun _ h9 => h9) rfl (by decide +kernel) rfl rfl (Nat.le_of_ble_eq_true rfl) dX8_begins_113 (pM_0_11 a cy (upd I 1 0) A_54 T 0) (fun H locs hP hD hS => ?_)
  refine lv_aload_n hx hb dX8_begins_116 rfl (lv_at hl 0 rfl) ?_
  refine va_get (D := (dC, dI)) (ci := 8) (v := .ref (a 7)) (C := RX8) (T := TX8) (N := 19) hx hb hts inX8_begins_X8 hown hK hP 0 (eM_0 a cy (upd (upd I 1 0) 2 0) A_54 T) rfl 9 (by decide) (hts _ mX8_begins_4) (fun _ h9 => h9) rfl dX8_begins_117 ?_
  refine lv_iconst (v := 0) hx hb dX8_begins_120 (by decide) ?_
  refine lv_iconst (v := 0) hx hb dX8_begins_121 (by decide) ?_
  refine g_zast (f := (A_54 6)) (j := 0) hx hb hK hP hD hS 7 (eM_7 a cy (upd (upd I 1 0) 2 0) A_54 T) (lit_in (by decide) : vp_in 0 2) rfl dX8_begins_122 (sM_7 a cy (upd (upd I 1 0) 2 0) A_54 T (upd (A_54 6) 0 (vp_nar .boolean 0))) (fun H locs hP hD hS => ?_)
  refine lv_aload_n hx hb dX8_begins_123 rfl (lv_at hl 0 rfl) ?_
  refine va_get (D := (dC, dI)) (ci := 8) (v := .ref (a 7)) (C := RX8) (T := TX8) (N := 19) hx hb hts inX8_begins_X8 hown hK hP 0 (eM_0 a cy (upd (upd I 1 0) 2 0) (va_up A_54 6 (upd (A_54 6) 0 (vp_nar .boolean 0))) T) rfl 9 (by decide) (hts _ mX8_begins_4) (fun _ h9 => h9) rfl dX8_begins_124 ?_
  refine lv_iconst (v := 1) hx hb dX8_begins_127 (by decide) ?_
  refine lv_iconst (v := 0) hx hb dX8_begins_128 (by decide) ?_
  refine g_zast (f := (upd (A_54 6) 0 (vp_nar .boolean 0))) (j := 1) hx hb hK hP hD hS 7 (eM_7 a cy (upd (upd I 1 0) 2 0) (va_up A_54 6 (upd (A_54 6) 0 (vp_nar .boolean 0))) T) (lit_in (by decide) : vp_in 1 2) rfl dX8_begins_129 (sM_7 a cy (upd (upd I 1 0) 2 0) (va_up A_54 6 (upd (A_54 6) 0 (vp_nar .boolean 0))) T (upd (upd (A_54 6) 0 (vp_nar .boolean 0)) 1 (vp_nar .boolean 0))) (fun H locs hP hD hS => ?_)
  obtain rfl := Option.some.inj h
  exact g_vret hx hb hr hK hP hD hS hQ dX8_begins_130
theorem inX8_type_X8 : ∀ w ∈ u_ws RX8 TX8 19, w ∈ wsX8_type := by decide +kernel
theorem mX8_type_0 : Cond.fieldLink RX8 55 "WarmBottlesModel" "typed" "I" ∈ wsX8_type := List.mem_of_getElem? (i := 1) rfl
theorem mX8_type_1 : Cond.fieldLink RX8 7 "WarmBottlesModel" "text" "[I" ∈ wsX8_type := List.mem_of_getElem? (i := 2) rfl
def rm_X8_type_M : Room := { frames := 5, cells := 0, slots := 0, locals := 270 }
def f_X8_type_M (N : Nat) (I : Nat → Int32) (A : Nat → Nat → Int32) (p1 : Int32) : Option (Int32 × (Nat → Int32) × (Nat → Nat → Int32)) := (Option.bind (f_X8_in_M N I A p1 0 255) (fun r1 => (if r1 = 0 then some ((-1), I, A) else (if (I 0) = 120 then some ((-3), I, A) else (if (I 0) < 0 ∨ 120 ≤ ((I 0)).toNatClampNeg then none else some (((I 0) + 1), (upd I 0 ((I 0) + 1)), (va_up A 0 (upd (A 0) ((I 0)).toNatClampNeg p1))))))))
set_option maxHeartbeats 4000000 in
set_option maxRecDepth 100000 in
theorem c_X8_type_M (l : Launch) (dC : Nat → ClassId) (dI : Nat → Nat → Nat) (a : Nat → Nat) (cy : Nat → ClassId) (N : Nat) (I : Nat → Int32) (A : Nat → Nat → Int32) (T : Int64) (p1 : Int32) (res : Int32 × (Nat → Int32) × (Nat → Nat → Int32)) (h : f_X8_type_M N I A p1 = some res) (sz : Nat) : Met l yX8_type wsX8_type rm_X8_type_M (g_Pre (dC, dI) cy [.ref (a 0), .int p1] (wM a cy I A T) sz) (g_Qi (dC, dI) cy res.1 (wM a cy I A T) (wM a cy res.2.1 res.2.2 T) sz) 0 0 (va_A (wM a cy I A T) sz) := by
  unfold f_X8_type_M at h
  refine g_entry _ _ _ _ _ _ (cc := cX8_type) (maxL := 2) (ret := (some .int)) (by decide) rfl (Nat.le_of_ble_eq_true rfl) ?_
  intro p e s m args below meth c ls hx hb hml hown hts hr hlocks hA hK hP hD hS hl Q hQ
  have hl : lv_has ls 2 [(0, .ref (a 0)), (1, .int p1)] := hl
  have hown : s.vm.findClass RX8 = some m.cls := hown
  refine lv_iload_n hx hb dX8_type_0 rfl (lv_at hl 1 rfl) ?_
  refine lv_iconst (v := 0) hx hb dX8_type_1 (by decide) ?_
  refine lv_sipush (v := 255) hx hb dX8_type_2 (by decide) ?_
  obtain ⟨r1, hr1, h⟩ := bnd_some h
  refine g_callSi (As := [.int p1, .int 0, .int 255]) (rest := []) hx hb hml hown hts (c_X8_in_M l dC dI a cy N I A T p1 0 255 r1 hr1) (va_cwS 3 hts gX8_type_X8_in rfl rfl rfl (by decide +kernel) ⟨Nat.le_of_ble_eq_true rfl, Nat.le_of_ble_eq_true rfl⟩) hK hP hD hS hA rfl hl.1 rfl (Nat.le_of_ble_eq_true rfl) dX8_type_5 (fun H locs hP hD hS => ?_)
  refine lv_if_ne (tgt := 13) hx hb dX8_type_8 (by decide) (fun c2 => ?_) (fun c2 => ?_)
  · replace h := ite_f h c2
    refine lv_aload_n hx hb dX8_type_13 rfl (lv_at hl 0 rfl) ?_
    refine va_get (D := (dC, dI)) (ci := 8) (v := .int (I 0)) (C := RX8) (T := TX8) (N := 19) hx hb hts inX8_type_X8 hown hK hP 0 (eM_0 a cy I A T) rfl 2 (by decide) (hts _ mX8_type_0) (fun _ h9 => h9) rfl dX8_type_14 ?_
    refine lv_bipush (v := 120) hx hb dX8_type_17 (by decide) ?_
    refine lv_icmp_ne (tgt := 25) hx hb dX8_type_19 (by decide) (fun c3 => ?_) (fun c3 => ?_)
    · replace h := ite_f h c3
      refine lv_aload_n hx hb dX8_type_25 rfl (lv_at hl 0 rfl) ?_
      refine va_get (D := (dC, dI)) (ci := 8) (v := .ref (a 1)) (C := RX8) (T := TX8) (N := 19) hx hb hts inX8_type_X8 hown hK hP 0 (eM_0 a cy I A T) rfl 1 (by decide) (hts _ mX8_type_1) (fun _ h9 => h9) rfl dX8_type_26 ?_
      refine lv_aload_n hx hb dX8_type_29 rfl (lv_at hl 0 rfl) ?_
      refine va_get (D := (dC, dI)) (ci := 8) (v := .int (I 0)) (C := RX8) (T := TX8) (N := 19) hx hb hts inX8_type_X8 hown hK hP 0 (eM_0 a cy I A T) rfl 2 (by decide) (hts _ mX8_type_0) (fun _ h9 => h9) rfl dX8_type_30 ?_
      refine lv_iload_n hx hb dX8_type_33 rfl (lv_at hl 1 rfl) ?_
      obtain ⟨i4, h⟩ := inb_some h
      refine g_iast (f := (A 0)) (j := ((I 0)).toNatClampNeg) hx hb hK hP hD hS 1 (eM_1 a cy I A T) i4 rfl dX8_type_34 (sM_1 a cy I A T (upd (A 0) ((I 0)).toNatClampNeg p1)) (fun H locs hP hD hS => ?_)
      refine lv_aload_n hx hb dX8_type_35 rfl (lv_at hl 0 rfl) ?_
      refine lv_dup hx hb dX8_type_36 rfl ?_
      refine va_get (D := (dC, dI)) (ci := 8) (v := .int (I 0)) (C := RX8) (T := TX8) (N := 19) hx hb hts inX8_type_X8 hown hK hP 0 (eM_0 a cy I (va_up A 0 (upd (A 0) ((I 0)).toNatClampNeg p1)) T) rfl 2 (by decide) (hts _ mX8_type_0) (fun _ h9 => h9) rfl dX8_type_37 ?_
      refine lv_iconst (v := 1) hx hb dX8_type_40 (by decide) ?_
      refine lv_iadd hx hb dX8_type_41 ?_
      refine g_put (D := (dC, dI)) (ci := 8) (v := .int ((I 0) + 1)) (ty := .int) (C := RX8) (T := TX8) (N := 19) hx hb hts inX8_type_X8 tyX8 tyX8_ok nmX8 hown hK hP hD hS 0 (eM_0 a cy I (va_up A 0 (upd (A 0) ((I 0)).toNatClampNeg p1)) T) rfl 2 (by decide) (hts _ mX8_type_0) (fun _ h9 => h9) rfl (by decide +kernel) rfl rfl (Nat.le_of_ble_eq_true rfl) dX8_type_42 (pM_0_2 a cy I (va_up A 0 (upd (A 0) ((I 0)).toNatClampNeg p1)) T ((I 0) + 1)) (fun H locs hP hD hS => ?_)
      refine lv_aload_n hx hb dX8_type_45 rfl (lv_at hl 0 rfl) ?_
      refine va_get (D := (dC, dI)) (ci := 8) (v := .int ((I 0) + 1)) (C := RX8) (T := TX8) (N := 19) hx hb hts inX8_type_X8 hown hK hP 0 (eM_0 a cy (upd I 0 ((I 0) + 1)) (va_up A 0 (upd (A 0) ((I 0)).toNatClampNeg p1)) T) rfl 2 (by decide) (hts _ mX8_type_0) (fun _ h9 => h9) rfl dX8_type_46 ?_
      obtain rfl := Option.some.inj h
      exact g_iret hx hb hr hK hP hD hS hQ dX8_type_49
    · replace h := ite_t h c3
      refine lv_bipush (v := (-3)) hx hb dX8_type_22 (by decide) ?_
      obtain rfl := Option.some.inj h
      exact g_iret hx hb hr hK hP hD hS hQ dX8_type_24
  · replace h := ite_t h c2
    refine lv_iconst (v := (-1)) hx hb dX8_type_11 (by decide) ?_
    obtain rfl := Option.some.inj h
    exact g_iret hx hb hr hK hP hD hS hQ dX8_type_12
theorem inX8_clear_X8 : ∀ w ∈ u_ws RX8 TX8 19, w ∈ wsX8_clear := by decide +kernel
theorem mX8_clear_0 : Cond.fieldLink RX8 55 "WarmBottlesModel" "typed" "I" ∈ wsX8_clear := List.mem_of_getElem? (i := 1) rfl
def rm_X8_clear_M : Room := { frames := 3, cells := 0, slots := 0, locals := 210 }
def f_X8_clear_M (N : Nat) (I : Nat → Int32) (A : Nat → Nat → Int32)  : Option (Int32 × (Nat → Int32)) := some ((I 0), (upd I 0 0))
set_option maxHeartbeats 4000000 in
set_option maxRecDepth 100000 in
theorem c_X8_clear_M (l : Launch) (dC : Nat → ClassId) (dI : Nat → Nat → Nat) (a : Nat → Nat) (cy : Nat → ClassId) (N : Nat) (I : Nat → Int32) (A : Nat → Nat → Int32) (T : Int64)  (res : Int32 × (Nat → Int32)) (h : f_X8_clear_M N I A  = some res) (sz : Nat) : Met l yX8_clear wsX8_clear rm_X8_clear_M (g_Pre (dC, dI) cy [.ref (a 0)] (wM a cy I A T) sz) (g_Qi (dC, dI) cy res.1 (wM a cy I A T) (wM a cy res.2 A T) sz) 0 0 (va_A (wM a cy I A T) sz) := by
  unfold f_X8_clear_M at h
  refine g_entry _ _ _ _ _ _ (cc := cX8_clear) (maxL := 2) (ret := (some .int)) (by decide) rfl (Nat.le_of_ble_eq_true rfl) ?_
  intro p e s m args below meth c ls hx hb hml hown hts hr hlocks hA hK hP hD hS hl Q hQ
  have hl : lv_has ls 2 [(0, .ref (a 0))] := hl
  have hown : s.vm.findClass RX8 = some m.cls := hown
  refine lv_aload_n hx hb dX8_clear_0 rfl (lv_at hl 0 rfl) ?_
  refine va_get (D := (dC, dI)) (ci := 8) (v := .int (I 0)) (C := RX8) (T := TX8) (N := 19) hx hb hts inX8_clear_X8 hown hK hP 0 (eM_0 a cy I A T) rfl 2 (by decide) (hts _ mX8_clear_0) (fun _ h9 => h9) rfl dX8_clear_1 ?_
  refine lv_istore_n (lv' := [(1, .int (I 0)), (0, .ref (a 0))]) hx hb dX8_clear_4 rfl hl (by decide) rfl (fun ls hl => ?_)
  refine lv_aload_n hx hb dX8_clear_5 rfl (lv_at hl 1 rfl) ?_
  refine lv_iconst (v := 0) hx hb dX8_clear_6 (by decide) ?_
  refine g_put (D := (dC, dI)) (ci := 8) (v := .int 0) (ty := .int) (C := RX8) (T := TX8) (N := 19) hx hb hts inX8_clear_X8 tyX8 tyX8_ok nmX8 hown hK hP hD hS 0 (eM_0 a cy I A T) rfl 2 (by decide) (hts _ mX8_clear_0) (fun _ h9 => h9) rfl (by decide +kernel) rfl rfl (Nat.le_of_ble_eq_true rfl) dX8_clear_7 (pM_0_2 a cy I A T 0) (fun H locs hP hD hS => ?_)
  refine lv_iload_n hx hb dX8_clear_10 rfl (lv_at hl 0 rfl) ?_
  obtain rfl := Option.some.inj h
  exact g_iret hx hb hr hK hP hD hS hQ dX8_clear_11
theorem inX8_ward_X8 : ∀ w ∈ u_ws RX8 TX8 19, w ∈ wsX8_ward := by decide +kernel
theorem mX8_ward_0 : Cond.fieldLink RX8 55 "WarmBottlesModel" "typed" "I" ∈ wsX8_ward := List.mem_of_getElem? (i := 2) rfl
theorem mX8_ward_1 : Cond.fieldLink RX8 13 "WarmBottlesModel" "told" "[I" ∈ wsX8_ward := List.mem_of_getElem? (i := 3) rfl
theorem mX8_ward_2 : Cond.fieldLink RX8 66 "WarmBottlesModel" "start" "I" ∈ wsX8_ward := List.mem_of_getElem? (i := 1) rfl
def rm_X8_ward_M : Room := { frames := 17, cells := 0, slots := 0, locals := 630 }
def f_X8_ward_M (N : Nat) (I : Nat → Int32) (A : Nat → Nat → Int32)  : Option (Int32 × (Nat → Int32) × (Nat → Nat → Int32)) := (Option.bind (f_X8_reads_M N I A) (fun r1 => (if r1.1 = 0 then some (((-10) - (r1.2.1 5)), r1.2.1, r1.2.2) else (Option.bind (f_X8_begins_M N r1.2.1 r1.2.2) (fun r3 => some (((r3.2 1) 3), (upd r3.1 0 0), r3.2))))))
set_option maxHeartbeats 4000000 in
set_option maxRecDepth 100000 in
theorem c_X8_ward_M (l : Launch) (dC : Nat → ClassId) (dI : Nat → Nat → Nat) (a : Nat → Nat) (cy : Nat → ClassId) (N : Nat) (I : Nat → Int32) (A : Nat → Nat → Int32) (T : Int64)  (res : Int32 × (Nat → Int32) × (Nat → Nat → Int32)) (h : f_X8_ward_M N I A  = some res) (sz : Nat) : Met l yX8_ward wsX8_ward rm_X8_ward_M (g_Pre (dC, dI) cy [.ref (a 0)] (wM a cy I A T) sz) (g_Qi (dC, dI) cy res.1 (wM a cy I A T) (wM a cy res.2.1 res.2.2 T) sz) 0 0 (va_A (wM a cy I A T) sz) := by
  unfold f_X8_ward_M at h
  refine g_entry _ _ _ _ _ _ (cc := cX8_ward) (maxL := 1) (ret := (some .int)) (by decide) rfl (Nat.le_of_ble_eq_true rfl) ?_
  intro p e s m args below meth c ls hx hb hml hown hts hr hlocks hA hK hP hD hS hl Q hQ
  have hl : lv_has ls 1 [(0, .ref (a 0))] := hl
  have hown : s.vm.findClass RX8 = some m.cls := hown
  refine lv_aload_n hx hb dX8_ward_0 rfl (lv_at hl 0 rfl) ?_
  obtain ⟨r1, hr1, h⟩ := bnd_some h
  refine g_callVi (As := []) (rest := []) (ci := 8) (q0 := 0) hx hb hml hown hts (c_X8_reads_M l dC dI a cy N I A T r1 hr1) (cwV 0 hts gX8_ward_X8_reads rfl rfl rfl (by decide +kernel) ⟨Nat.le_of_ble_eq_true rfl, Nat.le_of_ble_eq_true rfl⟩) hK hP hD hS hA rfl (eM_0 a cy I A T) rfl rfl hl.1 rfl (Nat.le_of_ble_eq_true rfl) dX8_ward_1 (fun H locs hP hD hS => ?_)
  refine lv_if_ne (tgt := 15) hx hb dX8_ward_4 (by decide) (fun c2 => ?_) (fun c2 => ?_)
  · replace h := ite_f h c2
    refine lv_aload_n hx hb dX8_ward_15 rfl (lv_at hl 0 rfl) ?_
    obtain ⟨r3, hr3, h⟩ := bnd_some h
    refine g_callVv (As := []) (rest := []) (ci := 8) (q0 := 0) hx hb hml hown hts (c_X8_begins_M l dC dI a cy N r1.2.1 r1.2.2 T r3 hr3) (cwV 0 hts gX8_ward_X8_begins rfl rfl rfl (by decide +kernel) ⟨Nat.le_of_ble_eq_true rfl, Nat.le_of_ble_eq_true rfl⟩) hK hP hD hS hA rfl (eM_0 a cy r1.2.1 r1.2.2 T) rfl rfl hl.1 rfl (Nat.le_of_ble_eq_true rfl) dX8_ward_16 (fun H locs hP hD hS => ?_)
    refine lv_aload_n hx hb dX8_ward_19 rfl (lv_at hl 0 rfl) ?_
    refine lv_iconst (v := 0) hx hb dX8_ward_20 (by decide) ?_
    refine g_put (D := (dC, dI)) (ci := 8) (v := .int 0) (ty := .int) (C := RX8) (T := TX8) (N := 19) hx hb hts inX8_ward_X8 tyX8 tyX8_ok nmX8 hown hK hP hD hS 0 (eM_0 a cy r3.1 r3.2 T) rfl 2 (by decide) (hts _ mX8_ward_0) (fun _ h9 => h9) rfl (by decide +kernel) rfl rfl (Nat.le_of_ble_eq_true rfl) dX8_ward_21 (pM_0_2 a cy r3.1 r3.2 T 0) (fun H locs hP hD hS => ?_)
    refine lv_aload_n hx hb dX8_ward_24 rfl (lv_at hl 0 rfl) ?_
    refine va_get (D := (dC, dI)) (ci := 8) (v := .ref (a 2)) (C := RX8) (T := TX8) (N := 19) hx hb hts inX8_ward_X8 hown hK hP 0 (eM_0 a cy (upd r3.1 0 0) r3.2 T) rfl 3 (by decide) (hts _ mX8_ward_1) (fun _ h9 => h9) rfl dX8_ward_25 ?_
    refine lv_iconst (v := 3) hx hb dX8_ward_28 (by decide) ?_
    refine g_iald (f := (r3.2 1)) (j := 3) hx hb hK hP 2 (eM_2 a cy (upd r3.1 0 0) r3.2 T) (lit_in (by decide) : vp_in 3 23) rfl dX8_ward_29 ?_
    obtain rfl := Option.some.inj h
    exact g_iret hx hb hr hK hP hD hS hQ dX8_ward_30
  · replace h := ite_t h c2
    refine lv_bipush (v := (-10)) hx hb dX8_ward_7 (by decide) ?_
    refine lv_aload_n hx hb dX8_ward_9 rfl (lv_at hl 0 rfl) ?_
    refine va_get (D := (dC, dI)) (ci := 8) (v := .int (r1.2.1 5)) (C := RX8) (T := TX8) (N := 19) hx hb hts inX8_ward_X8 hown hK hP 0 (eM_0 a cy r1.2.1 r1.2.2 T) rfl 14 (by decide) (hts _ mX8_ward_2) (fun _ h9 => h9) rfl dX8_ward_10 ?_
    refine lv_isub hx hb dX8_ward_13 ?_
    obtain rfl := Option.some.inj h
    exact g_iret hx hb hr hK hP hD hS hQ dX8_ward_14
theorem inX8_isBottle_X8 : ∀ w ∈ u_ws RX8 TX8 19, w ∈ wsX8_isBottle := by decide +kernel
theorem mX8_isBottle_0 : Cond.fieldLink RX8 13 "WarmBottlesModel" "told" "[I" ∈ wsX8_isBottle := List.mem_of_getElem? (i := 1) rfl
def rm_X8_isBottle_M : Room := { frames := 5, cells := 0, slots := 0, locals := 270 }
def f_X8_isBottle_M (N : Nat) (I : Nat → Int32) (A : Nat → Nat → Int32) (p1 : Int32) : Option (Int32) := (Option.bind (f_X8_in_M N I A p1 0 (((A 1) 0) - 1)) (fun r1 => (if r1 = 0 ∨ r1 = 1 then some r1 else none)))
set_option maxHeartbeats 4000000 in
set_option maxRecDepth 100000 in
theorem c_X8_isBottle_M (l : Launch) (dC : Nat → ClassId) (dI : Nat → Nat → Nat) (a : Nat → Nat) (cy : Nat → ClassId) (N : Nat) (I : Nat → Int32) (A : Nat → Nat → Int32) (T : Int64) (p1 : Int32) (res : Int32) (h : f_X8_isBottle_M N I A p1 = some res) (sz : Nat) : Met l yX8_isBottle wsX8_isBottle rm_X8_isBottle_M (g_Pre (dC, dI) cy [.ref (a 0), .int p1] (wM a cy I A T) sz) (g_Qi (dC, dI) cy res (wM a cy I A T) (wM a cy I A T) sz) 0 0 (va_A (wM a cy I A T) sz) := by
  unfold f_X8_isBottle_M at h
  refine g_entry _ _ _ _ _ _ (cc := cX8_isBottle) (maxL := 2) (ret := (some .boolean)) (by decide) rfl (Nat.le_of_ble_eq_true rfl) ?_
  intro p e s m args below meth c ls hx hb hml hown hts hr hlocks hA hK hP hD hS hl Q hQ
  have hl : lv_has ls 2 [(0, .ref (a 0)), (1, .int p1)] := hl
  have hown : s.vm.findClass RX8 = some m.cls := hown
  refine lv_iload_n hx hb dX8_isBottle_0 rfl (lv_at hl 1 rfl) ?_
  refine lv_iconst (v := 0) hx hb dX8_isBottle_1 (by decide) ?_
  refine lv_aload_n hx hb dX8_isBottle_2 rfl (lv_at hl 0 rfl) ?_
  refine va_get (D := (dC, dI)) (ci := 8) (v := .ref (a 2)) (C := RX8) (T := TX8) (N := 19) hx hb hts inX8_isBottle_X8 hown hK hP 0 (eM_0 a cy I A T) rfl 3 (by decide) (hts _ mX8_isBottle_0) (fun _ h9 => h9) rfl dX8_isBottle_3 ?_
  refine lv_iconst (v := 0) hx hb dX8_isBottle_6 (by decide) ?_
  refine g_iald (f := (A 1)) (j := 0) hx hb hK hP 2 (eM_2 a cy I A T) (lit_in (by decide) : vp_in 0 23) rfl dX8_isBottle_7 ?_
  refine lv_iconst (v := 1) hx hb dX8_isBottle_8 (by decide) ?_
  refine lv_isub hx hb dX8_isBottle_9 ?_
  obtain ⟨r1, hr1, h⟩ := bnd_some h
  refine g_callSi (As := [.int p1, .int 0, .int (((A 1) 0) - 1)]) (rest := []) hx hb hml hown hts (c_X8_in_M l dC dI a cy N I A T p1 0 (((A 1) 0) - 1) r1 hr1) (va_cwS 3 hts gX8_isBottle_X8_in rfl rfl rfl (by decide +kernel) ⟨Nat.le_of_ble_eq_true rfl, Nat.le_of_ble_eq_true rfl⟩) hK hP hD hS hA rfl hl.1 rfl (Nat.le_of_ble_eq_true rfl) dX8_isBottle_10 (fun H locs hP hD hS => ?_)
  obtain ⟨b2, h⟩ := bool_some h
  obtain rfl := Option.some.inj h
  exact g_zret hx hb hr b2 hK hP hD hS hQ dX8_isBottle_13
theorem inX8_soundOf_X8 : ∀ w ∈ u_ws RX8 TX8 19, w ∈ wsX8_soundOf := by decide +kernel
theorem mX8_soundOf_0 : Cond.fieldLink RX8 13 "WarmBottlesModel" "told" "[I" ∈ wsX8_soundOf := List.mem_of_getElem? (i := 1) rfl
def rm_X8_soundOf_M : Room := { frames := 3, cells := 0, slots := 0, locals := 210 }
def f_X8_soundOf_M (N : Nat) (I : Nat → Int32) (A : Nat → Nat → Int32) (p1 : Int32) (p2 : Int32) : Option (Int32) := (if p2 = 0 then some 0 else (if (17 + p1) < 0 ∨ 23 ≤ ((17 + p1)).toNatClampNeg then none else (if p2 < ((A 1) ((17 + p1)).toNatClampNeg) then some 1 else some 2)))
set_option maxHeartbeats 4000000 in
set_option maxRecDepth 100000 in
theorem c_X8_soundOf_M (l : Launch) (dC : Nat → ClassId) (dI : Nat → Nat → Nat) (a : Nat → Nat) (cy : Nat → ClassId) (N : Nat) (I : Nat → Int32) (A : Nat → Nat → Int32) (T : Int64) (p1 : Int32) (p2 : Int32) (res : Int32) (h : f_X8_soundOf_M N I A p1 p2 = some res) (sz : Nat) : Met l yX8_soundOf wsX8_soundOf rm_X8_soundOf_M (g_Pre (dC, dI) cy [.ref (a 0), .int p1, .int p2] (wM a cy I A T) sz) (g_Qi (dC, dI) cy res (wM a cy I A T) (wM a cy I A T) sz) 0 0 (va_A (wM a cy I A T) sz) := by
  unfold f_X8_soundOf_M at h
  refine g_entry _ _ _ _ _ _ (cc := cX8_soundOf) (maxL := 3) (ret := (some .int)) (by decide) rfl (Nat.le_of_ble_eq_true rfl) ?_
  intro p e s m args below meth c ls hx hb hml hown hts hr hlocks hA hK hP hD hS hl Q hQ
  have hl : lv_has ls 3 [(0, .ref (a 0)), (1, .int p1), (2, .int p2)] := hl
  have hown : s.vm.findClass RX8 = some m.cls := hown
  refine lv_iload_n hx hb dX8_soundOf_0 rfl (lv_at hl 2 rfl) ?_
  refine lv_if_ne (tgt := 8) hx hb dX8_soundOf_1 (by decide) (fun c1 => ?_) (fun c1 => ?_)
  · replace h := ite_f h c1
    refine lv_iload_n hx hb dX8_soundOf_8 rfl (lv_at hl 2 rfl) ?_
    refine lv_aload_n hx hb dX8_soundOf_9 rfl (lv_at hl 0 rfl) ?_
    refine va_get (D := (dC, dI)) (ci := 8) (v := .ref (a 2)) (C := RX8) (T := TX8) (N := 19) hx hb hts inX8_soundOf_X8 hown hK hP 0 (eM_0 a cy I A T) rfl 3 (by decide) (hts _ mX8_soundOf_0) (fun _ h9 => h9) rfl dX8_soundOf_10 ?_
    refine lv_bipush (v := 17) hx hb dX8_soundOf_13 (by decide) ?_
    refine lv_iload_n hx hb dX8_soundOf_15 rfl (lv_at hl 1 rfl) ?_
    refine lv_iadd hx hb dX8_soundOf_16 ?_
    obtain ⟨i2, h⟩ := inb_some h
    refine g_iald (f := (A 1)) (j := ((17 + p1)).toNatClampNeg) hx hb hK hP 2 (eM_2 a cy I A T) i2 rfl dX8_soundOf_17 ?_
    refine lv_icmp_lt (tgt := 25) hx hb dX8_soundOf_18 (by decide) (fun c3 => ?_) (fun c3 => ?_)
    · replace h := ite_t h c3
      refine lv_iconst (v := 1) hx hb dX8_soundOf_25 (by decide) ?_
      obtain rfl := Option.some.inj h
      exact g_iret hx hb hr hK hP hD hS hQ dX8_soundOf_26
    · replace h := ite_f h c3
      refine lv_iconst (v := 2) hx hb dX8_soundOf_21 (by decide) ?_
      refine lv_goto (tgt := 26) hx hb dX8_soundOf_22 (by decide) ?_
      obtain rfl := Option.some.inj h
      exact g_iret hx hb hr hK hP hD hS hQ dX8_soundOf_26
  · replace h := ite_t h c1
    refine lv_iconst (v := 0) hx hb dX8_soundOf_4 (by decide) ?_
    refine lv_goto (tgt := 26) hx hb dX8_soundOf_5 (by decide) ?_
    obtain rfl := Option.some.inj h
    exact g_iret hx hb hr hK hP hD hS hQ dX8_soundOf_26
