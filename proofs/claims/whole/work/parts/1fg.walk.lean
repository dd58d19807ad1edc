def rm_X3_loss_Ct : Room := { frames := 3, cells := 0, slots := 0, locals := 210 }
def f_X3_loss_Ct_L16 (N : Nat) (k_16 : Int32 → Int32 → Option (Int32)) (x1 : Int32) (I : (Nat → Int32)) (A : (Nat → Nat → Int32)) : Nat → Int32 → Int32 → Option (Int32)
  | 0, _, _ => none
  | n_16 + 1, x4, x5 => (if (I 13) ≤ x5 then (k_16 x4 x5) else (if x5 = x1 then (f_X3_loss_Ct_L16 N k_16 x1 I A n_16 x4 (x5 + 1)) else (if x5 < 0 ∨ 6 ≤ x5.toNatClampNeg then none else (if x1 < 0 ∨ 6 ≤ x1.toNatClampNeg then none else (f_X3_loss_Ct_L16 N k_16 x1 I A n_16 (x4 + (-2)) (x5 + 1))))))
def f_X3_loss_Ct (N : Nat) (I : Nat → Int32) (A : Nat → Nat → Int32) (p1 : Int32) (p3 : Int32) : Option (Int32) := (if p1 < 0 ∨ 6 ≤ p1.toNatClampNeg then none else (f_X3_loss_Ct_L16 N (fun (x4 : Int32) (x5 : Int32) => some (iMax 1 x4)) p1 I A N (((A 5) p1.toNatClampNeg) + p3) 0))
set_option maxHeartbeats 4000000 in
set_option maxRecDepth 100000 in
theorem c_X3_loss_Ct (l : Launch) (dC : Nat → ClassId) (dI : Nat → Nat → Nat) (a : Nat → Nat) (cy : Nat → ClassId) (tb : Nat) (N : Nat) (I : Nat → Int32) (A : Nat → Nat → Int32) (T : Int64) (p1 : Int32) (p3 : Int32) (res : Int32) (h : f_X3_loss_Ct N I A p1 p3 = some res) (sz : Nat) : Met l yX3_loss wsX3_loss rm_X3_loss_Ct (g_PreT (dC, dI) cy tb [.ref (a 7), .int p1, .ref tb, .int p3] (wC a cy I A T) sz) (g_Qi (dC, dI) cy res (wC a cy I A T) (wC a cy I A T) sz) 0 0 (va_A (wC a cy I A T) sz) := by
  unfold f_X3_loss_Ct at h
  refine g_entryT _ _ _ _ _ _ _ (cc := cX3_loss) (maxL := 6) (ret := (some .int)) (by decide) rfl (Nat.le_of_ble_eq_true rfl) ?_
  intro p e s m args below meth c ls hx hb hml hown hts hr hlocks hA hK hP hD hS hl hT hZ Q hQ
  have hl : lv_has ls 6 [(0, .ref (a 7)), (1, .int p1), (2, .ref tb), (3, .int p3)] := hl
  have hown : s.vm.findClass RX3 = some m.cls := hown
  refine lv_aload_n hx hb dX3_loss_0 rfl (lv_at hl 0 rfl) ?_
  refine va_get (D := (dC, dI)) (ci := 3) (v := .ref (a 8)) (C := RX3) (T := TX3) (N := 6) hx hb hts inX3_loss_X3 hown hK hP 7 (eC_7 a cy I A T) rfl 0 (by decide) (hts _ mX3_loss_0) (fun _ h9 => h9) rfl dX3_loss_1 ?_
  refine va_get (D := (dC, dI)) (ci := 6) (v := .ref (a 10)) (C := RX6) (T := TX6) (N := 6) hx hb hts inX3_loss_X6 hown hK hP 8 (eC_8 a cy I A T) rfl 1 (by decide) (hts _ mX3_loss_1) (fun _ h9 => h9) rfl dX3_loss_4 ?_
  refine lv_iload_n hx hb dX3_loss_7 rfl (lv_at hl 1 rfl) ?_
  obtain ⟨i1, h⟩ := inb_some h
  refine g_iald (f := (A 5)) (j := p1.toNatClampNeg) hx hb hK hP 10 (eC_10 a cy I A T) i1 rfl dX3_loss_8 ?_
  refine lv_iload_n hx hb dX3_loss_9 rfl (lv_at hl 3 rfl) ?_
  refine lv_iadd hx hb dX3_loss_10 ?_
  refine lv_istore (lv' := [(4, .int (((A 5) p1.toNatClampNeg) + p3)), (0, .ref (a 7)), (1, .int p1), (2, .ref tb), (3, .int p3)]) hx hb dX3_loss_11 hl (by decide) rfl (fun ls hl => ?_)
  refine lv_iconst (v := 0) hx hb dX3_loss_13 (by decide) ?_
  refine lv_istore (lv' := [(5, .int 0), (4, .int (((A 5) p1.toNatClampNeg) + p3)), (0, .ref (a 7)), (1, .int p1), (2, .ref tb), (3, .int p3)]) hx hb dX3_loss_14 hl (by decide) rfl (fun ls hl => ?_)
  have lp16 : ∀ (x1 : Int32) (k_16 : Int32 → Int32 → Option (Int32)), (∀ (x4 : Int32) (x5 : Int32), k_16 x4 x5 = some res → g_At (dC, dI) p l e (headSpec wsX3_loss rm_X3_loss_Ct).room s m args below meth c Q (wC a cy I A T) sz 6 (wC a cy I A T) [(4, .int x4)] 53 []) → ∀ (n_16 : Nat) (x4 : Int32) (x5 : Int32), f_X3_loss_Ct_L16 N k_16 x1 I A n_16 x4 x5 = some res → g_At (dC, dI) p l e (headSpec wsX3_loss rm_X3_loss_Ct).room s m args below meth c Q (wC a cy I A T) sz 6 (wC a cy I A T) [(0, .ref (a 7)), (1, .int x1), (2, .ref tb), (4, .int x4), (5, .int x5)] 16 [] := by
    intro x1 k_16 hk_16 n_16
    induction n_16 with
    | zero =>
      intro x4 x5 h
      exact absurd h (by rw [f_X3_loss_Ct_L16]; exact fun q => by cases q)
    | succ n_16 ih16 =>
      intro x4 x5 h H locs hP hD hS ls hl
      rw [f_X3_loss_Ct_L16] at h
      refine lv_iload hx hb dX3_loss_16 (lv_at hl 4 rfl) ?_
      refine lv_aload_n hx hb dX3_loss_18 rfl (lv_at hl 0 rfl) ?_
      refine va_get (D := (dC, dI)) (ci := 3) (v := .ref (a 8)) (C := RX3) (T := TX3) (N := 6) hx hb hts inX3_loss_X3 hown hK hP 7 (eC_7 a cy I A T) rfl 0 (by decide) (hts _ mX3_loss_0) (fun _ h9 => h9) rfl dX3_loss_19 ?_
      refine va_get (D := (dC, dI)) (ci := 6) (v := .int (I 13)) (C := RX6) (T := TX6) (N := 6) hx hb hts inX3_loss_X6 hown hK hP 8 (eC_8 a cy I A T) rfl 3 (by decide) (hts _ mX3_loss_6) (fun _ h9 => h9) rfl dX3_loss_22 ?_
      refine lv_icmp_ge (tgt := 53) hx hb dX3_loss_25 (by decide) (fun c2 => ?_) (fun c2 => ?_)
      · replace h := ite_t h c2
        exact hk_16 _ _ h _ _ hP hD hS _ (lv_sub hl [3] rfl)
      · replace h := ite_f h c2
        refine lv_iload hx hb dX3_loss_28 (lv_at hl 4 rfl) ?_
        refine lv_iload_n hx hb dX3_loss_30 rfl (lv_at hl 1 rfl) ?_
        refine lv_icmp_eq (tgt := 47) hx hb dX3_loss_31 (by decide) (fun c3 => ?_) (fun c3 => ?_)
        · replace h := ite_t h c3
          refine lv_iinc (v := (x5 + 1)) (lv' := [(5, .int (x5 + 1)), (0, .ref (a 7)), (1, .int x1), (2, .ref tb), (4, .int x4)]) hx hb dX3_loss_47 hl (k := 4) rfl rfl (by decide) rfl (fun ls hl => ?_)
          refine lv_goto (tgt := 16) hx hb dX3_loss_50 (by decide) ?_
          exact ih16 _ _ h _ _ hP hD hS _ (lv_sub hl [1, 2, 3, 4, 0] rfl)
        · replace h := ite_f h c3
          refine lv_aload_n hx hb dX3_loss_34 rfl (lv_at hl 2 rfl) ?_
          refine lv_iload hx hb dX3_loss_35 (lv_at hl 4 rfl) ?_
          obtain ⟨i4, h⟩ := inb_some h
          refine va_ti hx hb hT hS i4 (v := .int 0) rfl dX3_loss_37 ?_
          refine lv_aload_n hx hb dX3_loss_38 rfl (lv_at hl 2 rfl) ?_
          refine lv_iload_n hx hb dX3_loss_39 rfl (lv_at hl 1 rfl) ?_
          obtain ⟨i5, h⟩ := inb_some h
          refine va_ti hx hb hT hS i5 (v := .int 0) rfl dX3_loss_40 ?_
          refine lv_icmp_ne (tgt := 47) hx hb dX3_loss_41 (by decide) (fun c6 => absurd (by decide) c6) (fun _ => ?_)
          refine lv_iinc (v := (x4 + (-2))) (lv' := [(4, .int (x4 + (-2))), (0, .ref (a 7)), (1, .int x1), (2, .ref tb), (5, .int x5)]) hx hb dX3_loss_44 hl (k := 3) rfl rfl (by decide) rfl (fun ls hl => ?_)
          refine lv_iinc (v := (x5 + 1)) (lv' := [(5, .int (x5 + 1)), (4, .int (x4 + (-2))), (0, .ref (a 7)), (1, .int x1), (2, .ref tb)]) hx hb dX3_loss_47 hl (k := 4) rfl rfl (by decide) rfl (fun ls hl => ?_)
          refine lv_goto (tgt := 16) hx hb dX3_loss_50 (by decide) ?_
          exact ih16 _ _ h _ _ hP hD hS _ (lv_sub hl [2, 3, 4, 1, 0] rfl)
  refine lp16 _ _ ?_ N _ _ h _ _ hP hD hS _ (lv_sub hl [2, 3, 4, 1, 0] rfl)
  intro x4 x5 h H locs hP hD hS ls hl
  refine lv_iconst (v := 1) hx hb dX3_loss_53 (by decide) ?_
  refine lv_iload hx hb dX3_loss_54 (lv_at hl 0 rfl) ?_
  refine g_mmax hx hb (hml.trans hl.1.symm) hown (hts _ mX3_loss_2) (hts _ mX3_loss_3) (hts _ mX3_loss_4) (hts _ mX3_loss_5) (Nat.le_of_ble_eq_true rfl) (Nat.le_of_ble_eq_true rfl) (Nat.zero_le _) (Nat.zero_le _) dX3_loss_56 ?_
  obtain rfl := Option.some.inj h
  exact g_iret hx hb hr hK hP hD hS hQ dX3_loss_59
