def rm_X3_allLast_Ct : Room := { frames := 7, cells := 0, slots := 0, locals := 330 }
def f_X3_allLast_Ct_L5 (N : Nat) (k_5 : Int32 → Int32 → Option (Int32)) (I : (Nat → Int32)) (A : (Nat → Nat → Int32)) : Nat → Int32 → Int32 → Option (Int32)
  | 0, _, _ => none
  | n_5 + 1, x2, x3 => (if (I 13) ≤ x3 then (k_5 x2 x3) else (Option.bind (f_X3_lasts_Ct N I A x3) (fun r2 => (f_X3_allLast_Ct_L5 N k_5 I A n_5 (iMin x2 r2) (x3 + 1)))))
def f_X3_allLast_Ct (N : Nat) (I : Nat → Int32) (A : Nat → Nat → Int32)  : Option (Int32) := (f_X3_allLast_Ct_L5 N (fun (x2 : Int32) (x3 : Int32) => some x2) I A N 99 0)
set_option maxHeartbeats 4000000 in
set_option maxRecDepth 100000 in
theorem c_X3_allLast_Ct (l : Launch) (dC : Nat → ClassId) (dI : Nat → Nat → Nat) (a : Nat → Nat) (cy : Nat → ClassId) (tb : Nat) (N : Nat) (I : Nat → Int32) (A : Nat → Nat → Int32) (T : Int64)  (res : Int32) (h : f_X3_allLast_Ct N I A  = some res) (sz : Nat) : Met l yX3_allLast wsX3_allLast rm_X3_allLast_Ct (g_PreT (dC, dI) cy tb [.ref (a 7), .ref tb] (wC a cy I A T) sz) (g_Qi (dC, dI) cy res (wC a cy I A T) (wC a cy I A T) sz) 0 0 (va_A (wC a cy I A T) sz) := by
  unfold f_X3_allLast_Ct at h
  refine g_entryT _ _ _ _ _ _ _ (cc := cX3_allLast) (maxL := 4) (ret := (some .int)) (by decide) rfl (Nat.le_of_ble_eq_true rfl) ?_
  intro p e s m args below meth c ls hx hb hml hown hts hr hlocks hA hK hP hD hS hl hT hZ Q hQ
  have hl : lv_has ls 4 [(0, .ref (a 7)), (1, .ref tb)] := hl
  have hown : s.vm.findClass RX3 = some m.cls := hown
  refine lv_bipush (v := 99) hx hb dX3_allLast_0 (by decide) ?_
  refine lv_istore_n (lv' := [(2, .int 99), (0, .ref (a 7)), (1, .ref tb)]) hx hb dX3_allLast_2 rfl hl (by decide) rfl (fun ls hl => ?_)
  refine lv_iconst (v := 0) hx hb dX3_allLast_3 (by decide) ?_
  refine lv_istore_n (lv' := [(3, .int 0), (2, .int 99), (0, .ref (a 7)), (1, .ref tb)]) hx hb dX3_allLast_4 rfl hl (by decide) rfl (fun ls hl => ?_)
  have lp5 : ∀  (k_5 : Int32 → Int32 → Option (Int32)), (∀ (x2 : Int32) (x3 : Int32), k_5 x2 x3 = some res → g_At (dC, dI) p l e (headSpec wsX3_allLast rm_X3_allLast_Ct).room s m args below meth c Q (wC a cy I A T) sz 4 (wC a cy I A T) [(2, .int x2)] 33 []) → ∀ (n_5 : Nat) (x2 : Int32) (x3 : Int32), f_X3_allLast_Ct_L5 N k_5 I A n_5 x2 x3 = some res → g_At (dC, dI) p l e (headSpec wsX3_allLast rm_X3_allLast_Ct).room s m args below meth c Q (wC a cy I A T) sz 4 (wC a cy I A T) [(0, .ref (a 7)), (1, .ref tb), (2, .int x2), (3, .int x3)] 5 [] := by
    intro  k_5 hk_5 n_5
    induction n_5 with
    | zero =>
      intro x2 x3 h
      exact absurd h (by rw [f_X3_allLast_Ct_L5]; exact fun q => by cases q)
    | succ n_5 ih5 =>
      intro x2 x3 h H locs hP hD hS ls hl
      rw [f_X3_allLast_Ct_L5] at h
      refine lv_iload_n hx hb dX3_allLast_5 rfl (lv_at hl 3 rfl) ?_
      refine lv_aload_n hx hb dX3_allLast_6 rfl (lv_at hl 0 rfl) ?_
      refine va_get (D := (dC, dI)) (ci := 3) (v := .ref (a 8)) (C := RX3) (T := TX3) (N := 6) hx hb hts inX3_allLast_X3 hown hK hP 7 (eC_7 a cy I A T) rfl 0 (by decide) (hts _ mX3_allLast_0) (fun _ h9 => h9) rfl dX3_allLast_7 ?_
      refine va_get (D := (dC, dI)) (ci := 6) (v := .int (I 13)) (C := RX6) (T := TX6) (N := 6) hx hb hts inX3_allLast_X6 hown hK hP 8 (eC_8 a cy I A T) rfl 3 (by decide) (hts _ mX3_allLast_1) (fun _ h9 => h9) rfl dX3_allLast_10 ?_
      refine lv_icmp_ge (tgt := 33) hx hb dX3_allLast_13 (by decide) (fun c1 => ?_) (fun c1 => ?_)
      · replace h := ite_t h c1
        exact hk_5 _ _ h _ _ hP hD hS _ (lv_sub hl [2] rfl)
      · replace h := ite_f h c1
        refine lv_iload_n hx hb dX3_allLast_16 rfl (lv_at hl 2 rfl) ?_
        refine lv_aload_n hx hb dX3_allLast_17 rfl (lv_at hl 0 rfl) ?_
        refine lv_iload_n hx hb dX3_allLast_18 rfl (lv_at hl 3 rfl) ?_
        refine lv_aload_n hx hb dX3_allLast_19 rfl (lv_at hl 1 rfl) ?_
        obtain ⟨r2, hr2, h⟩ := bnd_some h
        refine g_callViT (As := [.int x3, .ref tb]) (rest := [.int x2]) (ci := 3) (q0 := 7) hx hb hml hown hts (c_X3_lasts_Ct l dC dI a cy tb N I A T x3 r2 hr2) (cwV 2 hts gX3_allLast_X3_lasts rfl rfl rfl (by decide +kernel) ⟨Nat.le_of_ble_eq_true rfl, Nat.le_of_ble_eq_true rfl⟩) hK hP hD hS hA hT hZ rfl (eC_7 a cy I A T) rfl rfl hl.1 rfl (Nat.le_of_ble_eq_true rfl) dX3_allLast_20 (fun H locs hP hD hS => ?_)
        refine g_mmin hx hb (hml.trans hl.1.symm) hown (hts _ mX3_allLast_2) (hts _ mX3_allLast_3) (hts _ mX3_allLast_4) (hts _ mX3_allLast_5) (Nat.le_of_ble_eq_true rfl) (Nat.le_of_ble_eq_true rfl) (Nat.zero_le _) (Nat.zero_le _) dX3_allLast_23 ?_
        refine lv_istore_n (lv' := [(2, .int (iMin x2 r2)), (0, .ref (a 7)), (1, .ref tb), (3, .int x3)]) hx hb dX3_allLast_26 rfl hl (by decide) rfl (fun ls hl => ?_)
        refine lv_iinc (v := (x3 + 1)) (lv' := [(3, .int (x3 + 1)), (2, .int (iMin x2 r2)), (0, .ref (a 7)), (1, .ref tb)]) hx hb dX3_allLast_27 hl (k := 3) rfl rfl (by decide) rfl (fun ls hl => ?_)
        refine lv_goto (tgt := 5) hx hb dX3_allLast_30 (by decide) ?_
        exact ih5 _ _ h _ _ hP hD hS _ (lv_sub hl [2, 3, 1, 0] rfl)
  refine lp5  _ ?_ N _ _ h _ _ hP hD hS _ (lv_sub hl [2, 3, 1, 0] rfl)
  intro x2 x3 h H locs hP hD hS ls hl
  refine lv_iload_n hx hb dX3_allLast_33 rfl (lv_at hl 0 rfl) ?_
  obtain rfl := Option.some.inj h
  exact g_iret hx hb hr hK hP hD hS hQ dX3_allLast_34
