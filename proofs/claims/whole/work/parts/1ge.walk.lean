def rm_X7_commonDivisor_C : Room := { frames := 3, cells := 0, slots := 0, locals := 210 }
def f_X7_commonDivisor_C_L7 (N : Nat) (k_7 : Int32 → Int32 → Int32 → Option (Int32)) (I : (Nat → Int32)) (A : (Nat → Nat → Int32)) : Nat → Int32 → Int32 → Int32 → Option (Int32)
  | 0, _, _, _ => none
  | n_7 + 1, x2, x3, x4 => (if 64 ≤ x4 then (k_7 x2 x3 x4) else (if x3 = 0 then (k_7 x2 x3 x4) else (f_X7_commonDivisor_C_L7 N k_7 I A n_7 x3 (x2 - x2 / x3 * x3) (x4 + 1))))
def f_X7_commonDivisor_C (N : Nat) (I : Nat → Int32) (A : Nat → Nat → Int32) (p0 : Int32) (p1 : Int32) : Option (Int32) := (f_X7_commonDivisor_C_L7 N (fun (x2 : Int32) (x3 : Int32) (x4 : Int32) => some x2) I A N p0 p1 0)
set_option maxHeartbeats 4000000 in
set_option maxRecDepth 100000 in
theorem c_X7_commonDivisor_C (l : Launch) (dC : Nat → ClassId) (dI : Nat → Nat → Nat) (a : Nat → Nat) (cy : Nat → ClassId) (N : Nat) (I : Nat → Int32) (A : Nat → Nat → Int32) (T : Int64) (p0 : Int32) (p1 : Int32) (res : Int32) (h : f_X7_commonDivisor_C N I A p0 p1 = some res) (sz : Nat) : Met l yX7_commonDivisor wsX7_commonDivisor rm_X7_commonDivisor_C (g_Pre (dC, dI) cy [.int p0, .int p1] (wC a cy I A T) sz) (g_Qi (dC, dI) cy res (wC a cy I A T) (wC a cy I A T) sz) 0 0 (va_A (wC a cy I A T) sz) := by
  unfold f_X7_commonDivisor_C at h
  refine g_entry _ _ _ _ _ _ (cc := cX7_commonDivisor) (maxL := 6) (ret := (some .int)) (by decide) rfl (Nat.le_of_ble_eq_true rfl) ?_
  intro p e s m args below meth c ls hx hb hml hown hts hr hlocks hA hK hP hD hS hl Q hQ
  have hl : lv_has ls 6 [(0, .int p0), (1, .int p1)] := hl
  have hown : s.vm.findClass RX7 = some m.cls := hown
  refine lv_iload_n hx hb dX7_commonDivisor_0 rfl (lv_at hl 0 rfl) ?_
  refine lv_istore_n (lv' := [(2, .int p0), (0, .int p0), (1, .int p1)]) hx hb dX7_commonDivisor_1 rfl hl (by decide) rfl (fun ls hl => ?_)
  refine lv_iload_n hx hb dX7_commonDivisor_2 rfl (lv_at hl 2 rfl) ?_
  refine lv_istore_n (lv' := [(3, .int p1), (2, .int p0), (0, .int p0), (1, .int p1)]) hx hb dX7_commonDivisor_3 rfl hl (by decide) rfl (fun ls hl => ?_)
  refine lv_iconst (v := 0) hx hb dX7_commonDivisor_4 (by decide) ?_
  refine lv_istore (lv' := [(4, .int 0), (3, .int p1), (2, .int p0), (0, .int p0), (1, .int p1)]) hx hb dX7_commonDivisor_5 hl (by decide) rfl (fun ls hl => ?_)
  have lp7 : ∀  (k_7 : Int32 → Int32 → Int32 → Option (Int32)), (∀ (x2 : Int32) (x3 : Int32) (x4 : Int32), k_7 x2 x3 x4 = some res → g_At (dC, dI) p l e (headSpec wsX7_commonDivisor rm_X7_commonDivisor_C).room s m args below meth c Q (wC a cy I A T) sz 6 (wC a cy I A T) [(2, .int x2)] 34 []) → ∀ (n_7 : Nat) (x2 : Int32) (x3 : Int32) (x4 : Int32), f_X7_commonDivisor_C_L7 N k_7 I A n_7 x2 x3 x4 = some res → g_At (dC, dI) p l e (headSpec wsX7_commonDivisor rm_X7_commonDivisor_C).room s m args below meth c Q (wC a cy I A T) sz 6 (wC a cy I A T) [(2, .int x2), (3, .int x3), (4, .int x4)] 7 [] := by
    intro  k_7 hk_7 n_7
    induction n_7 with
    | zero =>
      intro x2 x3 x4 h
      exact absurd h (by rw [f_X7_commonDivisor_C_L7]; exact fun q => by cases q)
    | succ n_7 ih7 =>
      intro x2 x3 x4 h H locs hP hD hS ls hl
      rw [f_X7_commonDivisor_C_L7] at h
      refine lv_iload hx hb dX7_commonDivisor_7 (lv_at hl 2 rfl) ?_
      refine lv_bipush (v := 64) hx hb dX7_commonDivisor_9 (by decide) ?_
      refine lv_icmp_ge (tgt := 34) hx hb dX7_commonDivisor_11 (by decide) (fun c1 => ?_) (fun c1 => ?_)
      · replace h := ite_t h c1
        exact hk_7 _ _ _ h _ _ hP hD hS _ (lv_sub hl [0] rfl)
      · replace h := ite_f h c1
        refine lv_iload_n hx hb dX7_commonDivisor_14 rfl (lv_at hl 1 rfl) ?_
        refine lv_if_eq (tgt := 34) hx hb dX7_commonDivisor_15 (by decide) (fun c2 => ?_) (fun c2 => ?_)
        · replace h := ite_t h c2
          exact hk_7 _ _ _ h _ _ hP hD hS _ (lv_sub hl [0] rfl)
        · replace h := ite_f h c2
          refine lv_iload_n hx hb dX7_commonDivisor_18 rfl (lv_at hl 0 rfl) ?_
          refine lv_iload_n hx hb dX7_commonDivisor_19 rfl (lv_at hl 1 rfl) ?_
          refine lv_irem hx hb dX7_commonDivisor_20 c2 ?_
          refine lv_istore (lv' := [(5, .int (x2 - x2 / x3 * x3)), (2, .int x2), (3, .int x3), (4, .int x4)]) hx hb dX7_commonDivisor_21 hl (by decide) rfl (fun ls hl => ?_)
          refine lv_iload_n hx hb dX7_commonDivisor_23 rfl (lv_at hl 2 rfl) ?_
          refine lv_istore_n (lv' := [(2, .int x3), (5, .int (x2 - x2 / x3 * x3)), (3, .int x3), (4, .int x4)]) hx hb dX7_commonDivisor_24 rfl hl (by decide) rfl (fun ls hl => ?_)
          refine lv_iload hx hb dX7_commonDivisor_25 (lv_at hl 1 rfl) ?_
          refine lv_istore_n (lv' := [(3, .int (x2 - x2 / x3 * x3)), (2, .int x3), (5, .int (x2 - x2 / x3 * x3)), (4, .int x4)]) hx hb dX7_commonDivisor_27 rfl hl (by decide) rfl (fun ls hl => ?_)
          refine lv_iinc (v := (x4 + 1)) (lv' := [(4, .int (x4 + 1)), (3, .int (x2 - x2 / x3 * x3)), (2, .int x3), (5, .int (x2 - x2 / x3 * x3))]) hx hb dX7_commonDivisor_28 hl (k := 3) rfl rfl (by decide) rfl (fun ls hl => ?_)
          refine lv_goto (tgt := 7) hx hb dX7_commonDivisor_31 (by decide) ?_
          exact ih7 _ _ _ h _ _ hP hD hS _ (lv_sub hl [2, 1, 0] rfl)
  refine lp7  _ ?_ N _ _ _ h _ _ hP hD hS _ (lv_sub hl [2, 1, 0] rfl)
  intro x2 x3 x4 h H locs hP hD hS ls hl
  refine lv_iload_n hx hb dX7_commonDivisor_34 rfl (lv_at hl 0 rfl) ?_
  obtain rfl := Option.some.inj h
  exact g_iret hx hb hr hK hP hD hS hQ dX7_commonDivisor_35
