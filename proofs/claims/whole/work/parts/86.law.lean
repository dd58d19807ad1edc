theorem lw_lcmp (x : Int64) : lg_cmp x x = 0 := by
  simp [lg_cmp]
theorem lw_gt {i L : Nat} (hi : i ≤ 1000) (hL : L ≤ 320) (h : ¬ Int32.ofNat L - 5 < iI (i : Int)) : i + 5 ≤ L := by
  have h1 : Int32.ofNat L = iI (L : Int) := rfl
  rw [h1, iL5, iI_sub, iI_lt (by omega) (by omega) (by omega) (by omega)] at h
  omega
theorem lw_in {i k L : Nat} (hL : L ≤ 320) (h : i + k < L) : vp_in (iI (i : Int) + iI (k : Int)) L := by
  intro q
  rw [iI_add, iL0, iI_lt (by omega) (by omega) (by omega) (by omega), iI_tn (by omega) (by omega)] at q
  omega
set_option maxHeartbeats 8000000 in
set_option maxRecDepth 100000 in
theorem lw_type {p : Program} {l : Launch} {e : Env} {s : State} {m : MethodId} {below : List Frame} {meth : Method} {c : Code} {dC : Nat → ClassId} {dI : Nat → Nat → Nat} {b L : Nat} {xs : Nat → Int32} {Rel : (Nat → Int32) → (Nat → Nat → Int32) → Int64 → (Nat → Int32) → (Nat → Nat → Int32) → Int64 → Prop} (N : Nat) (hst : St_type N Rel) (a b2 : Nat → Nat) (cy : Nat → ClassId) (i : Nat) (hL : L ≤ 320) (hiL : i + 5 ≤ L) (hx : p.tables.exec = Jvm.exec) (hb : c.code = cL_law) (hml : c.maxLocals = 4) (hown : s.vm.findClass RL = some m.cls) (hts : ∀ w ∈ wsL_law, w.before #[Value.ref b] s = true) (hX : va_X b L xs s s.heap) (hbl : b < s.heap.size) (hK : va_K (dC, dI) vwCl (g_tys cy) s)
    (kk : ∀ (IC : Nat → Int32) (AC : Nat → Nat → Int32) (TC : Int64) (IM : Nat → Int32) (AM : Nat → Nat → Int32) (TM : Int64), Rel IC AC TC IM AM TM → ∀ (H : Heap) (locs : List Loc), va_P (dC, dI) vwCl (wC a cy IC AC TC ++ wM b2 cy IM AM TM) H → va_D (fun q : Nat => s.heap.size ≤ q) (wC a cy IC AC TC ++ wM b2 cy IM AM TM) → va_S (fun q : Nat => s.heap.size ≤ q) s.heap H locs → ∀ ls : Array Slot, lv_has ls 4 [(0, .ref b), (1, .ref (a 0)), (2, .ref (b2 0)), (3, .int (iI (i : Int)))] → W p l e room_1 s m #[Value.ref b] below meth c H locs 600000 7302250 (lw_Z below #[Value.ref b] s) (F0 m 724 ls [])) :
    ∀ (IC : Nat → Int32) (AC : Nat → Nat → Int32) (TC : Int64) (IM : Nat → Int32) (AM : Nat → Nat → Int32) (TM : Int64), Rel IC AC TC IM AM TM → ∀ (H : Heap) (locs : List Loc), va_P (dC, dI) vwCl (wC a cy IC AC TC ++ wM b2 cy IM AM TM) H → va_D (fun q : Nat => s.heap.size ≤ q) (wC a cy IC AC TC ++ wM b2 cy IM AM TM) → va_S (fun q : Nat => s.heap.size ≤ q) s.heap H locs → ∀ ls : Array Slot, lv_has ls 4 [(0, .ref b), (1, .ref (a 0)), (2, .ref (b2 0)), (3, .int (iI (i : Int)))] → W p l e room_1 s m #[Value.ref b] below meth c H locs 600000 7302250 (lw_Z below #[Value.ref b] s) (F0 m 148 ls []) := by
  intro IC AC TC IM AM TM hrel H locs hP hD hS ls hl
  have hA : ∀ q : Nat, s.heap.size ≤ q → (fun q : Nat => s.heap.size ≤ q) q := fun _ h => h
  have hbA : ¬ (fun q : Nat => s.heap.size ≤ q) b := Nat.not_le.mpr hbl
  obtain ⟨r1, r2, h1, h2, h3, hrel2⟩ := hst IC AC TC IM AM TM hrel (xs (iI (i : Int) + iI 1).toNatClampNeg)
  refine lv_aload_n hx hb dL_law_148 rfl (lv_at hl 1 rfl) ?_
  refine lv_aload_n hx hb dL_law_149 rfl (lv_at hl 0 rfl) ?_
  refine lv_iload_n hx hb dL_law_150 rfl (lv_at hl 3 rfl) ?_
  refine lv_iconst (v := iI 1) hx hb dL_law_151 rfl ?_
  refine lv_iadd hx hb dL_law_152 ?_
  refine va_sld hx hb hX hbl hbA hS (lw_in (k := 1) hL (by omega)) dL_law_153 ?_
  refine lawC_i (As := [.int (xs (iI (i : Int) + iI 1).toNatClampNeg)]) (rest := []) hx hb hml hown hts (c_X7_type_C l dC dI a cy N IC AC TC (xs (iI (i : Int) + iI 1).toNatClampNeg) r1 h1) (cwV 1 hts gL_law_X7_type rfl rfl rfl (by decide +kernel) ⟨Nat.le_of_ble_eq_true rfl, Nat.le_of_ble_eq_true rfl⟩) hK hP hD hS hA rfl hl.1 rfl (Nat.le_of_ble_eq_true rfl) dL_law_154 (Nat.le_refl _) (Nat.le_refl _) (fun H locs hP hD hS => ?_)
  refine lv_aload_n hx hb dL_law_157 rfl (lv_at hl 2 rfl) ?_
  refine lv_aload_n hx hb dL_law_158 rfl (lv_at hl 0 rfl) ?_
  refine lv_iload_n hx hb dL_law_159 rfl (lv_at hl 3 rfl) ?_
  refine lv_iconst (v := iI 1) hx hb dL_law_160 rfl ?_
  refine lv_iadd hx hb dL_law_161 ?_
  refine va_sld hx hb hX hbl hbA hS (lw_in (k := 1) hL (by omega)) dL_law_162 ?_
  refine lawM_i (As := [.int (xs (iI (i : Int) + iI 1).toNatClampNeg)]) (rest := [.int r1.1]) hx hb hml hown hts (c_X8_type_M l dC dI b2 cy N IM AM TM (xs (iI (i : Int) + iI 1).toNatClampNeg) r2 h2) (cwV 1 hts gL_law_X8_type rfl rfl rfl (by decide +kernel) ⟨Nat.le_of_ble_eq_true rfl, Nat.le_of_ble_eq_true rfl⟩) hK hP hD hS hA rfl hl.1 rfl (Nat.le_of_ble_eq_true rfl) dL_law_163 (Nat.le_refl _) (Nat.le_refl _) (fun H locs hP hD hS => ?_)
  refine lv_icmp_eq (tgt := 724) hx hb dL_law_166 (by decide) (fun _ => ?_) (fun q => absurd h3 q)
  exact kk r1.2.1 r1.2.2 TC r2.2.1 r2.2.2 TM hrel2 _ _ hP hD hS ls hl
set_option maxHeartbeats 8000000 in
set_option maxRecDepth 100000 in
theorem lw_clear {p : Program} {l : Launch} {e : Env} {s : State} {m : MethodId} {below : List Frame} {meth : Method} {c : Code} {dC : Nat → ClassId} {dI : Nat → Nat → Nat} {b L : Nat} {xs : Nat → Int32} {Rel : (Nat → Int32) → (Nat → Nat → Int32) → Int64 → (Nat → Int32) → (Nat → Nat → Int32) → Int64 → Prop} (N : Nat) (hst : St_clear N Rel) (a b2 : Nat → Nat) (cy : Nat → ClassId) (i : Nat) (hL : L ≤ 320) (hiL : i + 5 ≤ L) (hx : p.tables.exec = Jvm.exec) (hb : c.code = cL_law) (hml : c.maxLocals = 4) (hown : s.vm.findClass RL = some m.cls) (hts : ∀ w ∈ wsL_law, w.before #[Value.ref b] s = true) (hX : va_X b L xs s s.heap) (hbl : b < s.heap.size) (hK : va_K (dC, dI) vwCl (g_tys cy) s)
    (kk : ∀ (IC : Nat → Int32) (AC : Nat → Nat → Int32) (TC : Int64) (IM : Nat → Int32) (AM : Nat → Nat → Int32) (TM : Int64), Rel IC AC TC IM AM TM → ∀ (H : Heap) (locs : List Loc), va_P (dC, dI) vwCl (wC a cy IC AC TC ++ wM b2 cy IM AM TM) H → va_D (fun q : Nat => s.heap.size ≤ q) (wC a cy IC AC TC ++ wM b2 cy IM AM TM) → va_S (fun q : Nat => s.heap.size ≤ q) s.heap H locs → ∀ ls : Array Slot, lv_has ls 4 [(0, .ref b), (1, .ref (a 0)), (2, .ref (b2 0)), (3, .int (iI (i : Int)))] → W p l e room_1 s m #[Value.ref b] below meth c H locs 600000 7302250 (lw_Z below #[Value.ref b] s) (F0 m 724 ls [])) :
    ∀ (IC : Nat → Int32) (AC : Nat → Nat → Int32) (TC : Int64) (IM : Nat → Int32) (AM : Nat → Nat → Int32) (TM : Int64), Rel IC AC TC IM AM TM → ∀ (H : Heap) (locs : List Loc), va_P (dC, dI) vwCl (wC a cy IC AC TC ++ wM b2 cy IM AM TM) H → va_D (fun q : Nat => s.heap.size ≤ q) (wC a cy IC AC TC ++ wM b2 cy IM AM TM) → va_S (fun q : Nat => s.heap.size ≤ q) s.heap H locs → ∀ ls : Array Slot, lv_has ls 4 [(0, .ref b), (1, .ref (a 0)), (2, .ref (b2 0)), (3, .int (iI (i : Int)))] → W p l e room_1 s m #[Value.ref b] below meth c H locs 600000 7302250 (lw_Z below #[Value.ref b] s) (F0 m 171 ls []) := by
  intro IC AC TC IM AM TM hrel H locs hP hD hS ls hl
  have hA : ∀ q : Nat, s.heap.size ≤ q → (fun q : Nat => s.heap.size ≤ q) q := fun _ h => h
  have hbA : ¬ (fun q : Nat => s.heap.size ≤ q) b := Nat.not_le.mpr hbl
  obtain ⟨r1, r2, h1, h2, h3, hrel2⟩ := hst IC AC TC IM AM TM hrel
  refine lv_aload_n hx hb dL_law_171 rfl (lv_at hl 1 rfl) ?_
  refine lawC_i (As := []) (rest := []) hx hb hml hown hts (c_X7_clear_C l dC dI a cy N IC AC TC r1 h1) (cwV 0 hts gL_law_X7_clear rfl rfl rfl (by decide +kernel) ⟨Nat.le_of_ble_eq_true rfl, Nat.le_of_ble_eq_true rfl⟩) hK hP hD hS hA rfl hl.1 rfl (Nat.le_of_ble_eq_true rfl) dL_law_172 (Nat.le_refl _) (Nat.le_refl _) (fun H locs hP hD hS => ?_)
  refine lv_aload_n hx hb dL_law_175 rfl (lv_at hl 2 rfl) ?_
  refine lawM_i (As := []) (rest := [.int r1.1]) hx hb hml hown hts (c_X8_clear_M l dC dI b2 cy N IM AM TM r2 h2) (cwV 0 hts gL_law_X8_clear rfl rfl rfl (by decide +kernel) ⟨Nat.le_of_ble_eq_true rfl, Nat.le_of_ble_eq_true rfl⟩) hK hP hD hS hA rfl hl.1 rfl (Nat.le_of_ble_eq_true rfl) dL_law_176 (Nat.le_refl _) (Nat.le_refl _) (fun H locs hP hD hS => ?_)
  refine lv_icmp_eq (tgt := 724) hx hb dL_law_179 (by decide) (fun _ => ?_) (fun q => absurd h3 q)
  exact kk r1.2 AC TC r2.2 AM TM hrel2 _ _ hP hD hS ls hl
set_option maxHeartbeats 8000000 in
set_option maxRecDepth 100000 in
theorem lw_ward {p : Program} {l : Launch} {e : Env} {s : State} {m : MethodId} {below : List Frame} {meth : Method} {c : Code} {dC : Nat → ClassId} {dI : Nat → Nat → Nat} {b L : Nat} {xs : Nat → Int32} {Rel : (Nat → Int32) → (Nat → Nat → Int32) → Int64 → (Nat → Int32) → (Nat → Nat → Int32) → Int64 → Prop} (N : Nat) (hst : St_ward N Rel) (a b2 : Nat → Nat) (cy : Nat → ClassId) (i : Nat) (hL : L ≤ 320) (hiL : i + 5 ≤ L) (hx : p.tables.exec = Jvm.exec) (hb : c.code = cL_law) (hml : c.maxLocals = 4) (hown : s.vm.findClass RL = some m.cls) (hts : ∀ w ∈ wsL_law, w.before #[Value.ref b] s = true) (hX : va_X b L xs s s.heap) (hbl : b < s.heap.size) (hK : va_K (dC, dI) vwCl (g_tys cy) s)
    (kk : ∀ (IC : Nat → Int32) (AC : Nat → Nat → Int32) (TC : Int64) (IM : Nat → Int32) (AM : Nat → Nat → Int32) (TM : Int64), Rel IC AC TC IM AM TM → ∀ (H : Heap) (locs : List Loc), va_P (dC, dI) vwCl (wC a cy IC AC TC ++ wM b2 cy IM AM TM) H → va_D (fun q : Nat => s.heap.size ≤ q) (wC a cy IC AC TC ++ wM b2 cy IM AM TM) → va_S (fun q : Nat => s.heap.size ≤ q) s.heap H locs → ∀ ls : Array Slot, lv_has ls 4 [(0, .ref b), (1, .ref (a 0)), (2, .ref (b2 0)), (3, .int (iI (i : Int)))] → W p l e room_1 s m #[Value.ref b] below meth c H locs 600000 7302250 (lw_Z below #[Value.ref b] s) (F0 m 724 ls [])) :
    ∀ (IC : Nat → Int32) (AC : Nat → Nat → Int32) (TC : Int64) (IM : Nat → Int32) (AM : Nat → Nat → Int32) (TM : Int64), Rel IC AC TC IM AM TM → ∀ (H : Heap) (locs : List Loc), va_P (dC, dI) vwCl (wC a cy IC AC TC ++ wM b2 cy IM AM TM) H → va_D (fun q : Nat => s.heap.size ≤ q) (wC a cy IC AC TC ++ wM b2 cy IM AM TM) → va_S (fun q : Nat => s.heap.size ≤ q) s.heap H locs → ∀ ls : Array Slot, lv_has ls 4 [(0, .ref b), (1, .ref (a 0)), (2, .ref (b2 0)), (3, .int (iI (i : Int)))] → W p l e room_1 s m #[Value.ref b] below meth c H locs 600000 7302250 (lw_Z below #[Value.ref b] s) (F0 m 184 ls []) := by
  intro IC AC TC IM AM TM hrel H locs hP hD hS ls hl
  have hA : ∀ q : Nat, s.heap.size ≤ q → (fun q : Nat => s.heap.size ≤ q) q := fun _ h => h
  have hbA : ¬ (fun q : Nat => s.heap.size ≤ q) b := Nat.not_le.mpr hbl
  obtain ⟨r1, r2, h1, h2, h3, hrel2⟩ := hst IC AC TC IM AM TM hrel
  refine lv_aload_n hx hb dL_law_184 rfl (lv_at hl 1 rfl) ?_
  refine lawC_i (As := []) (rest := []) hx hb hml hown hts (c_X7_ward_C l dC dI a cy N IC AC TC r1 h1) (cwV 0 hts gL_law_X7_ward rfl rfl rfl (by decide +kernel) ⟨Nat.le_of_ble_eq_true rfl, Nat.le_of_ble_eq_true rfl⟩) hK hP hD hS hA rfl hl.1 rfl (Nat.le_of_ble_eq_true rfl) dL_law_185 (Nat.le_refl _) (Nat.le_refl _) (fun H locs hP hD hS => ?_)
  refine lv_aload_n hx hb dL_law_188 rfl (lv_at hl 2 rfl) ?_
  refine lawM_i (As := []) (rest := [.int r1.1]) hx hb hml hown hts (c_X8_ward_M l dC dI b2 cy N IM AM TM r2 h2) (cwV 0 hts gL_law_X8_ward rfl rfl rfl (by decide +kernel) ⟨Nat.le_of_ble_eq_true rfl, Nat.le_of_ble_eq_true rfl⟩) hK hP hD hS hA rfl hl.1 rfl (Nat.le_of_ble_eq_true rfl) dL_law_189 (Nat.le_refl _) (Nat.le_refl _) (fun H locs hP hD hS => ?_)
  refine lv_icmp_eq (tgt := 724) hx hb dL_law_192 (by decide) (fun _ => ?_) (fun q => absurd h3 q)
  exact kk r1.2.1 r1.2.2 TC r2.2.1 r2.2.2 TM hrel2 _ _ hP hD hS ls hl
set_option maxHeartbeats 8000000 in
set_option maxRecDepth 100000 in
theorem lw_bottle {p : Program} {l : Launch} {e : Env} {s : State} {m : MethodId} {below : List Frame} {meth : Method} {c : Code} {dC : Nat → ClassId} {dI : Nat → Nat → Nat} {b L : Nat} {xs : Nat → Int32} {Rel : (Nat → Int32) → (Nat → Nat → Int32) → Int64 → (Nat → Int32) → (Nat → Nat → Int32) → Int64 → Prop} (N : Nat) (hst : St_bottle N Rel) (a b2 : Nat → Nat) (cy : Nat → ClassId) (i : Nat) (hL : L ≤ 320) (hiL : i + 5 ≤ L) (hx : p.tables.exec = Jvm.exec) (hb : c.code = cL_law) (hml : c.maxLocals = 4) (hown : s.vm.findClass RL = some m.cls) (hts : ∀ w ∈ wsL_law, w.before #[Value.ref b] s = true) (hX : va_X b L xs s s.heap) (hbl : b < s.heap.size) (hK : va_K (dC, dI) vwCl (g_tys cy) s)
    (kk : ∀ (IC : Nat → Int32) (AC : Nat → Nat → Int32) (TC : Int64) (IM : Nat → Int32) (AM : Nat → Nat → Int32) (TM : Int64), Rel IC AC TC IM AM TM → ∀ (H : Heap) (locs : List Loc), va_P (dC, dI) vwCl (wC a cy IC AC TC ++ wM b2 cy IM AM TM) H → va_D (fun q : Nat => s.heap.size ≤ q) (wC a cy IC AC TC ++ wM b2 cy IM AM TM) → va_S (fun q : Nat => s.heap.size ≤ q) s.heap H locs → ∀ ls : Array Slot, lv_has ls 4 [(0, .ref b), (1, .ref (a 0)), (2, .ref (b2 0)), (3, .int (iI (i : Int)))] → W p l e room_1 s m #[Value.ref b] below meth c H locs 600000 7302250 (lw_Z below #[Value.ref b] s) (F0 m 724 ls [])) :
    ∀ (IC : Nat → Int32) (AC : Nat → Nat → Int32) (TC : Int64) (IM : Nat → Int32) (AM : Nat → Nat → Int32) (TM : Int64), Rel IC AC TC IM AM TM → ∀ (H : Heap) (locs : List Loc), va_P (dC, dI) vwCl (wC a cy IC AC TC ++ wM b2 cy IM AM TM) H → va_D (fun q : Nat => s.heap.size ≤ q) (wC a cy IC AC TC ++ wM b2 cy IM AM TM) → va_S (fun q : Nat => s.heap.size ≤ q) s.heap H locs → ∀ ls : Array Slot, lv_has ls 4 [(0, .ref b), (1, .ref (a 0)), (2, .ref (b2 0)), (3, .int (iI (i : Int)))] → W p l e room_1 s m #[Value.ref b] below meth c H locs 600000 7302250 (lw_Z below #[Value.ref b] s) (F0 m 197 ls []) := by
  intro IC AC TC IM AM TM hrel H locs hP hD hS ls hl
  have hA : ∀ q : Nat, s.heap.size ≤ q → (fun q : Nat => s.heap.size ≤ q) q := fun _ h => h
  have hbA : ¬ (fun q : Nat => s.heap.size ≤ q) b := Nat.not_le.mpr hbl
  obtain ⟨r1, r2, h1, h2, h3, hrel2⟩ := hst IC AC TC IM AM TM hrel (xs (iI (i : Int) + iI 1).toNatClampNeg) (xs (iI (i : Int) + iI 2).toNatClampNeg)
  refine lv_aload_n hx hb dL_law_197 rfl (lv_at hl 1 rfl) ?_
  refine lv_aload_n hx hb dL_law_198 rfl (lv_at hl 0 rfl) ?_
  refine lv_iload_n hx hb dL_law_199 rfl (lv_at hl 3 rfl) ?_
  refine lv_iconst (v := iI 1) hx hb dL_law_200 rfl ?_
  refine lv_iadd hx hb dL_law_201 ?_
  refine va_sld hx hb hX hbl hbA hS (lw_in (k := 1) hL (by omega)) dL_law_202 ?_
  refine lv_aload_n hx hb dL_law_203 rfl (lv_at hl 0 rfl) ?_
  refine lv_iload_n hx hb dL_law_204 rfl (lv_at hl 3 rfl) ?_
  refine lv_iconst (v := iI 2) hx hb dL_law_205 rfl ?_
  refine lv_iadd hx hb dL_law_206 ?_
  refine va_sld hx hb hX hbl hbA hS (lw_in (k := 2) hL (by omega)) dL_law_207 ?_
  refine lawC_i (As := [.int (xs (iI (i : Int) + iI 1).toNatClampNeg), .int (xs (iI (i : Int) + iI 2).toNatClampNeg)]) (rest := []) hx hb hml hown hts (c_X7_bottle_C l dC dI a cy N IC AC TC (xs (iI (i : Int) + iI 1).toNatClampNeg) (xs (iI (i : Int) + iI 2).toNatClampNeg) r1 h1) (cwV 2 hts gL_law_X7_bottle rfl rfl rfl (by decide +kernel) ⟨Nat.le_of_ble_eq_true rfl, Nat.le_of_ble_eq_true rfl⟩) hK hP hD hS hA rfl hl.1 rfl (Nat.le_of_ble_eq_true rfl) dL_law_208 (Nat.le_refl _) (Nat.le_refl _) (fun H locs hP hD hS => ?_)
  refine lv_aload_n hx hb dL_law_211 rfl (lv_at hl 2 rfl) ?_
  refine lv_aload_n hx hb dL_law_212 rfl (lv_at hl 0 rfl) ?_
  refine lv_iload_n hx hb dL_law_213 rfl (lv_at hl 3 rfl) ?_
  refine lv_iconst (v := iI 1) hx hb dL_law_214 rfl ?_
  refine lv_iadd hx hb dL_law_215 ?_
  refine va_sld hx hb hX hbl hbA hS (lw_in (k := 1) hL (by omega)) dL_law_216 ?_
  refine lv_aload_n hx hb dL_law_217 rfl (lv_at hl 0 rfl) ?_
  refine lv_iload_n hx hb dL_law_218 rfl (lv_at hl 3 rfl) ?_
  refine lv_iconst (v := iI 2) hx hb dL_law_219 rfl ?_
  refine lv_iadd hx hb dL_law_220 ?_
  refine va_sld hx hb hX hbl hbA hS (lw_in (k := 2) hL (by omega)) dL_law_221 ?_
  refine lawM_i (As := [.int (xs (iI (i : Int) + iI 1).toNatClampNeg), .int (xs (iI (i : Int) + iI 2).toNatClampNeg)]) (rest := [.int r1]) hx hb hml hown hts (c_X8_bottle_M l dC dI b2 cy N IM AM TM (xs (iI (i : Int) + iI 1).toNatClampNeg) (xs (iI (i : Int) + iI 2).toNatClampNeg) r2 h2) (cwV 2 hts gL_law_X8_bottle rfl rfl rfl (by decide +kernel) ⟨Nat.le_of_ble_eq_true rfl, Nat.le_of_ble_eq_true rfl⟩) hK hP hD hS hA rfl hl.1 rfl (Nat.le_of_ble_eq_true rfl) dL_law_222 (Nat.le_refl _) (Nat.le_refl _) (fun H locs hP hD hS => ?_)
  refine lv_icmp_eq (tgt := 724) hx hb dL_law_225 (by decide) (fun _ => ?_) (fun q => absurd h3 q)
  exact kk IC AC TC IM AM TM hrel2 _ _ hP hD hS ls hl
set_option maxHeartbeats 8000000 in
set_option maxRecDepth 100000 in
theorem lw_now {p : Program} {l : Launch} {e : Env} {s : State} {m : MethodId} {below : List Frame} {meth : Method} {c : Code} {dC : Nat → ClassId} {dI : Nat → Nat → Nat} {b L : Nat} {xs : Nat → Int32} {Rel : (Nat → Int32) → (Nat → Nat → Int32) → Int64 → (Nat → Int32) → (Nat → Nat → Int32) → Int64 → Prop} (N : Nat) (hst : St_now N Rel) (a b2 : Nat → Nat) (cy : Nat → ClassId) (i : Nat) (hL : L ≤ 320) (hiL : i + 5 ≤ L) (hx : p.tables.exec = Jvm.exec) (hb : c.code = cL_law) (hml : c.maxLocals = 4) (hown : s.vm.findClass RL = some m.cls) (hts : ∀ w ∈ wsL_law, w.before #[Value.ref b] s = true) (hX : va_X b L xs s s.heap) (hbl : b < s.heap.size) (hK : va_K (dC, dI) vwCl (g_tys cy) s)
    (kk : ∀ (IC : Nat → Int32) (AC : Nat → Nat → Int32) (TC : Int64) (IM : Nat → Int32) (AM : Nat → Nat → Int32) (TM : Int64), Rel IC AC TC IM AM TM → ∀ (H : Heap) (locs : List Loc), va_P (dC, dI) vwCl (wC a cy IC AC TC ++ wM b2 cy IM AM TM) H → va_D (fun q : Nat => s.heap.size ≤ q) (wC a cy IC AC TC ++ wM b2 cy IM AM TM) → va_S (fun q : Nat => s.heap.size ≤ q) s.heap H locs → ∀ ls : Array Slot, lv_has ls 4 [(0, .ref b), (1, .ref (a 0)), (2, .ref (b2 0)), (3, .int (iI (i : Int)))] → W p l e room_1 s m #[Value.ref b] below meth c H locs 600000 7302250 (lw_Z below #[Value.ref b] s) (F0 m 724 ls [])) :
    ∀ (IC : Nat → Int32) (AC : Nat → Nat → Int32) (TC : Int64) (IM : Nat → Int32) (AM : Nat → Nat → Int32) (TM : Int64), Rel IC AC TC IM AM TM → ∀ (H : Heap) (locs : List Loc), va_P (dC, dI) vwCl (wC a cy IC AC TC ++ wM b2 cy IM AM TM) H → va_D (fun q : Nat => s.heap.size ≤ q) (wC a cy IC AC TC ++ wM b2 cy IM AM TM) → va_S (fun q : Nat => s.heap.size ≤ q) s.heap H locs → ∀ ls : Array Slot, lv_has ls 4 [(0, .ref b), (1, .ref (a 0)), (2, .ref (b2 0)), (3, .int (iI (i : Int)))] → W p l e room_1 s m #[Value.ref b] below meth c H locs 600000 7302250 (lw_Z below #[Value.ref b] s) (F0 m 230 ls []) := by
  intro IC AC TC IM AM TM hrel H locs hP hD hS ls hl
  have hA : ∀ q : Nat, s.heap.size ≤ q → (fun q : Nat => s.heap.size ≤ q) q := fun _ h => h
  have hbA : ¬ (fun q : Nat => s.heap.size ≤ q) b := Nat.not_le.mpr hbl
  obtain ⟨r1, r2, h1, h2, h3, hrel2⟩ := hst IC AC TC IM AM TM hrel (xs (iI (i : Int) + iI 1).toNatClampNeg)
  refine lv_aload_n hx hb dL_law_230 rfl (lv_at hl 1 rfl) ?_
  refine lv_aload_n hx hb dL_law_231 rfl (lv_at hl 0 rfl) ?_
  refine lv_iload_n hx hb dL_law_232 rfl (lv_at hl 3 rfl) ?_
  refine lv_iconst (v := iI 1) hx hb dL_law_233 rfl ?_
  refine lv_iadd hx hb dL_law_234 ?_
  refine va_sld hx hb hX hbl hbA hS (lw_in (k := 1) hL (by omega)) dL_law_235 ?_
  refine lawC_i (As := [.int (xs (iI (i : Int) + iI 1).toNatClampNeg)]) (rest := []) hx hb hml hown hts (c_X7_now_C l dC dI a cy N IC AC TC (xs (iI (i : Int) + iI 1).toNatClampNeg) r1 h1) (cwV 1 hts gL_law_X7_now rfl rfl rfl (by decide +kernel) ⟨Nat.le_of_ble_eq_true rfl, Nat.le_of_ble_eq_true rfl⟩) hK hP hD hS hA rfl hl.1 rfl (Nat.le_of_ble_eq_true rfl) dL_law_236 (Nat.le_refl _) (Nat.le_refl _) (fun H locs hP hD hS => ?_)
  refine lv_aload_n hx hb dL_law_239 rfl (lv_at hl 2 rfl) ?_
  refine lv_aload_n hx hb dL_law_240 rfl (lv_at hl 0 rfl) ?_
  refine lv_iload_n hx hb dL_law_241 rfl (lv_at hl 3 rfl) ?_
  refine lv_iconst (v := iI 1) hx hb dL_law_242 rfl ?_
  refine lv_iadd hx hb dL_law_243 ?_
  refine va_sld hx hb hX hbl hbA hS (lw_in (k := 1) hL (by omega)) dL_law_244 ?_
  refine lawM_i (As := [.int (xs (iI (i : Int) + iI 1).toNatClampNeg)]) (rest := [.int r1]) hx hb hml hown hts (c_X8_now_M l dC dI b2 cy N IM AM TM (xs (iI (i : Int) + iI 1).toNatClampNeg) r2 h2) (cwV 1 hts gL_law_X8_now rfl rfl rfl (by decide +kernel) ⟨Nat.le_of_ble_eq_true rfl, Nat.le_of_ble_eq_true rfl⟩) hK hP hD hS hA rfl hl.1 rfl (Nat.le_of_ble_eq_true rfl) dL_law_245 (Nat.le_refl _) (Nat.le_refl _) (fun H locs hP hD hS => ?_)
  refine lv_icmp_eq (tgt := 724) hx hb dL_law_248 (by decide) (fun _ => ?_) (fun q => absurd h3 q)
  exact kk IC AC TC IM AM TM hrel2 _ _ hP hD hS ls hl
set_option maxHeartbeats 8000000 in
set_option maxRecDepth 100000 in
theorem lw_hour {p : Program} {l : Launch} {e : Env} {s : State} {m : MethodId} {below : List Frame} {meth : Method} {c : Code} {dC : Nat → ClassId} {dI : Nat → Nat → Nat} {b L : Nat} {xs : Nat → Int32} {Rel : (Nat → Int32) → (Nat → Nat → Int32) → Int64 → (Nat → Int32) → (Nat → Nat → Int32) → Int64 → Prop} (N : Nat) (hst : St_hour N Rel) (a b2 : Nat → Nat) (cy : Nat → ClassId) (i : Nat) (hL : L ≤ 320) (hiL : i + 5 ≤ L) (hx : p.tables.exec = Jvm.exec) (hb : c.code = cL_law) (hml : c.maxLocals = 4) (hown : s.vm.findClass RL = some m.cls) (hts : ∀ w ∈ wsL_law, w.before #[Value.ref b] s = true) (hX : va_X b L xs s s.heap) (hbl : b < s.heap.size) (hK : va_K (dC, dI) vwCl (g_tys cy) s)
    (kk : ∀ (IC : Nat → Int32) (AC : Nat → Nat → Int32) (TC : Int64) (IM : Nat → Int32) (AM : Nat → Nat → Int32) (TM : Int64), Rel IC AC TC IM AM TM → ∀ (H : Heap) (locs : List Loc), va_P (dC, dI) vwCl (wC a cy IC AC TC ++ wM b2 cy IM AM TM) H → va_D (fun q : Nat => s.heap.size ≤ q) (wC a cy IC AC TC ++ wM b2 cy IM AM TM) → va_S (fun q : Nat => s.heap.size ≤ q) s.heap H locs → ∀ ls : Array Slot, lv_has ls 4 [(0, .ref b), (1, .ref (a 0)), (2, .ref (b2 0)), (3, .int (iI (i : Int)))] → W p l e room_1 s m #[Value.ref b] below meth c H locs 600000 7302250 (lw_Z below #[Value.ref b] s) (F0 m 724 ls [])) :
    ∀ (IC : Nat → Int32) (AC : Nat → Nat → Int32) (TC : Int64) (IM : Nat → Int32) (AM : Nat → Nat → Int32) (TM : Int64), Rel IC AC TC IM AM TM → ∀ (H : Heap) (locs : List Loc), va_P (dC, dI) vwCl (wC a cy IC AC TC ++ wM b2 cy IM AM TM) H → va_D (fun q : Nat => s.heap.size ≤ q) (wC a cy IC AC TC ++ wM b2 cy IM AM TM) → va_S (fun q : Nat => s.heap.size ≤ q) s.heap H locs → ∀ ls : Array Slot, lv_has ls 4 [(0, .ref b), (1, .ref (a 0)), (2, .ref (b2 0)), (3, .int (iI (i : Int)))] → W p l e room_1 s m #[Value.ref b] below meth c H locs 600000 7302250 (lw_Z below #[Value.ref b] s) (F0 m 253 ls []) := by
  intro IC AC TC IM AM TM hrel H locs hP hD hS ls hl
  have hA : ∀ q : Nat, s.heap.size ≤ q → (fun q : Nat => s.heap.size ≤ q) q := fun _ h => h
  have hbA : ¬ (fun q : Nat => s.heap.size ≤ q) b := Nat.not_le.mpr hbl
  obtain ⟨r1, r2, h1, h2, h3, hrel2⟩ := hst IC AC TC IM AM TM hrel
  refine lv_aload_n hx hb dL_law_253 rfl (lv_at hl 1 rfl) ?_
  refine lawC_i (As := []) (rest := []) hx hb hml hown hts (c_X7_hour_C l dC dI a cy N IC AC TC r1 h1) (cwV 0 hts gL_law_X7_hour rfl rfl rfl (by decide +kernel) ⟨Nat.le_of_ble_eq_true rfl, Nat.le_of_ble_eq_true rfl⟩) hK hP hD hS hA rfl hl.1 rfl (Nat.le_of_ble_eq_true rfl) dL_law_254 (Nat.le_refl _) (Nat.le_refl _) (fun H locs hP hD hS => ?_)
  refine lv_aload_n hx hb dL_law_257 rfl (lv_at hl 2 rfl) ?_
  refine lawM_i (As := []) (rest := [.int r1.1]) hx hb hml hown hts (c_X8_hour_M l dC dI b2 cy N IM AM TM r2 h2) (cwV 0 hts gL_law_X8_hour rfl rfl rfl (by decide +kernel) ⟨Nat.le_of_ble_eq_true rfl, Nat.le_of_ble_eq_true rfl⟩) hK hP hD hS hA rfl hl.1 rfl (Nat.le_of_ble_eq_true rfl) dL_law_258 (Nat.le_refl _) (Nat.le_refl _) (fun H locs hP hD hS => ?_)
  refine lv_icmp_eq (tgt := 724) hx hb dL_law_261 (by decide) (fun _ => ?_) (fun q => absurd h3 q)
  exact kk r1.2.1 r1.2.2 TC r2.2.1 r2.2.2 TM hrel2 _ _ hP hD hS ls hl
set_option maxHeartbeats 8000000 in
set_option maxRecDepth 100000 in
theorem lw_fills {p : Program} {l : Launch} {e : Env} {s : State} {m : MethodId} {below : List Frame} {meth : Method} {c : Code} {dC : Nat → ClassId} {dI : Nat → Nat → Nat} {b L : Nat} {xs : Nat → Int32} {Rel : (Nat → Int32) → (Nat → Nat → Int32) → Int64 → (Nat → Int32) → (Nat → Nat → Int32) → Int64 → Prop} (N : Nat) (hst : St_fills N Rel) (a b2 : Nat → Nat) (cy : Nat → ClassId) (i : Nat) (hL : L ≤ 320) (hiL : i + 5 ≤ L) (hx : p.tables.exec = Jvm.exec) (hb : c.code = cL_law) (hml : c.maxLocals = 4) (hown : s.vm.findClass RL = some m.cls) (hts : ∀ w ∈ wsL_law, w.before #[Value.ref b] s = true) (hX : va_X b L xs s s.heap) (hbl : b < s.heap.size) (hK : va_K (dC, dI) vwCl (g_tys cy) s)
    (kk : ∀ (IC : Nat → Int32) (AC : Nat → Nat → Int32) (TC : Int64) (IM : Nat → Int32) (AM : Nat → Nat → Int32) (TM : Int64), Rel IC AC TC IM AM TM → ∀ (H : Heap) (locs : List Loc), va_P (dC, dI) vwCl (wC a cy IC AC TC ++ wM b2 cy IM AM TM) H → va_D (fun q : Nat => s.heap.size ≤ q) (wC a cy IC AC TC ++ wM b2 cy IM AM TM) → va_S (fun q : Nat => s.heap.size ≤ q) s.heap H locs → ∀ ls : Array Slot, lv_has ls 4 [(0, .ref b), (1, .ref (a 0)), (2, .ref (b2 0)), (3, .int (iI (i : Int)))] → W p l e room_1 s m #[Value.ref b] below meth c H locs 600000 7302250 (lw_Z below #[Value.ref b] s) (F0 m 724 ls [])) :
    ∀ (IC : Nat → Int32) (AC : Nat → Nat → Int32) (TC : Int64) (IM : Nat → Int32) (AM : Nat → Nat → Int32) (TM : Int64), Rel IC AC TC IM AM TM → ∀ (H : Heap) (locs : List Loc), va_P (dC, dI) vwCl (wC a cy IC AC TC ++ wM b2 cy IM AM TM) H → va_D (fun q : Nat => s.heap.size ≤ q) (wC a cy IC AC TC ++ wM b2 cy IM AM TM) → va_S (fun q : Nat => s.heap.size ≤ q) s.heap H locs → ∀ ls : Array Slot, lv_has ls 4 [(0, .ref b), (1, .ref (a 0)), (2, .ref (b2 0)), (3, .int (iI (i : Int)))] → W p l e room_1 s m #[Value.ref b] below meth c H locs 600000 7302250 (lw_Z below #[Value.ref b] s) (F0 m 266 ls []) := by
  intro IC AC TC IM AM TM hrel H locs hP hD hS ls hl
  have hA : ∀ q : Nat, s.heap.size ≤ q → (fun q : Nat => s.heap.size ≤ q) q := fun _ h => h
  have hbA : ¬ (fun q : Nat => s.heap.size ≤ q) b := Nat.not_le.mpr hbl
  obtain ⟨r1, r2, h1, h2, h3, hrel2⟩ := hst IC AC TC IM AM TM hrel (xs (iI (i : Int) + iI 1).toNatClampNeg) (xs (iI (i : Int) + iI 2).toNatClampNeg)
  refine lv_aload_n hx hb dL_law_266 rfl (lv_at hl 1 rfl) ?_
  refine lv_aload_n hx hb dL_law_267 rfl (lv_at hl 0 rfl) ?_
  refine lv_iload_n hx hb dL_law_268 rfl (lv_at hl 3 rfl) ?_
  refine lv_iconst (v := iI 1) hx hb dL_law_269 rfl ?_
  refine lv_iadd hx hb dL_law_270 ?_
  refine va_sld hx hb hX hbl hbA hS (lw_in (k := 1) hL (by omega)) dL_law_271 ?_
  refine lv_aload_n hx hb dL_law_272 rfl (lv_at hl 0 rfl) ?_
  refine lv_iload_n hx hb dL_law_273 rfl (lv_at hl 3 rfl) ?_
  refine lv_iconst (v := iI 2) hx hb dL_law_274 rfl ?_
  refine lv_iadd hx hb dL_law_275 ?_
  refine va_sld hx hb hX hbl hbA hS (lw_in (k := 2) hL (by omega)) dL_law_276 ?_
  refine lawC_i (As := [.int (xs (iI (i : Int) + iI 1).toNatClampNeg), .int (xs (iI (i : Int) + iI 2).toNatClampNeg)]) (rest := []) hx hb hml hown hts (c_X7_fills_C l dC dI a cy N IC AC TC (xs (iI (i : Int) + iI 1).toNatClampNeg) (xs (iI (i : Int) + iI 2).toNatClampNeg) r1 h1) (cwV 2 hts gL_law_X7_fills rfl rfl rfl (by decide +kernel) ⟨Nat.le_of_ble_eq_true rfl, Nat.le_of_ble_eq_true rfl⟩) hK hP hD hS hA rfl hl.1 rfl (Nat.le_of_ble_eq_true rfl) dL_law_277 (Nat.le_refl _) (Nat.le_refl _) (fun H locs hP hD hS => ?_)
  refine lv_aload_n hx hb dL_law_280 rfl (lv_at hl 2 rfl) ?_
  refine lv_aload_n hx hb dL_law_281 rfl (lv_at hl 0 rfl) ?_
  refine lv_iload_n hx hb dL_law_282 rfl (lv_at hl 3 rfl) ?_
  refine lv_iconst (v := iI 1) hx hb dL_law_283 rfl ?_
  refine lv_iadd hx hb dL_law_284 ?_
  refine va_sld hx hb hX hbl hbA hS (lw_in (k := 1) hL (by omega)) dL_law_285 ?_
  refine lv_aload_n hx hb dL_law_286 rfl (lv_at hl 0 rfl) ?_
  refine lv_iload_n hx hb dL_law_287 rfl (lv_at hl 3 rfl) ?_
  refine lv_iconst (v := iI 2) hx hb dL_law_288 rfl ?_
  refine lv_iadd hx hb dL_law_289 ?_
  refine va_sld hx hb hX hbl hbA hS (lw_in (k := 2) hL (by omega)) dL_law_290 ?_
  refine lawM_i (As := [.int (xs (iI (i : Int) + iI 1).toNatClampNeg), .int (xs (iI (i : Int) + iI 2).toNatClampNeg)]) (rest := [.int r1.1]) hx hb hml hown hts (c_X8_fills_M l dC dI b2 cy N IM AM TM (xs (iI (i : Int) + iI 1).toNatClampNeg) (xs (iI (i : Int) + iI 2).toNatClampNeg) r2 h2) (cwV 2 hts gL_law_X8_fills rfl rfl rfl (by decide +kernel) ⟨Nat.le_of_ble_eq_true rfl, Nat.le_of_ble_eq_true rfl⟩) hK hP hD hS hA rfl hl.1 rfl (Nat.le_of_ble_eq_true rfl) dL_law_291 (Nat.le_refl _) (Nat.le_refl _) (fun H locs hP hD hS => ?_)
  refine lv_icmp_eq (tgt := 724) hx hb dL_law_294 (by decide) (fun _ => ?_) (fun q => absurd h3 q)
  exact kk r1.2.1 r1.2.2 TC r2.2.1 r2.2.2 TM hrel2 _ _ hP hD hS ls hl
set_option maxHeartbeats 8000000 in
set_option maxRecDepth 100000 in
theorem lw_lays {p : Program} {l : Launch} {e : Env} {s : State} {m : MethodId} {below : List Frame} {meth : Method} {c : Code} {dC : Nat → ClassId} {dI : Nat → Nat → Nat} {b L : Nat} {xs : Nat → Int32} {Rel : (Nat → Int32) → (Nat → Nat → Int32) → Int64 → (Nat → Int32) → (Nat → Nat → Int32) → Int64 → Prop} (N : Nat) (hst : St_lays N Rel) (a b2 : Nat → Nat) (cy : Nat → ClassId) (i : Nat) (hL : L ≤ 320) (hiL : i + 5 ≤ L) (hx : p.tables.exec = Jvm.exec) (hb : c.code = cL_law) (hml : c.maxLocals = 4) (hown : s.vm.findClass RL = some m.cls) (hts : ∀ w ∈ wsL_law, w.before #[Value.ref b] s = true) (hX : va_X b L xs s s.heap) (hbl : b < s.heap.size) (hK : va_K (dC, dI) vwCl (g_tys cy) s)
    (kk : ∀ (IC : Nat → Int32) (AC : Nat → Nat → Int32) (TC : Int64) (IM : Nat → Int32) (AM : Nat → Nat → Int32) (TM : Int64), Rel IC AC TC IM AM TM → ∀ (H : Heap) (locs : List Loc), va_P (dC, dI) vwCl (wC a cy IC AC TC ++ wM b2 cy IM AM TM) H → va_D (fun q : Nat => s.heap.size ≤ q) (wC a cy IC AC TC ++ wM b2 cy IM AM TM) → va_S (fun q : Nat => s.heap.size ≤ q) s.heap H locs → ∀ ls : Array Slot, lv_has ls 4 [(0, .ref b), (1, .ref (a 0)), (2, .ref (b2 0)), (3, .int (iI (i : Int)))] → W p l e room_1 s m #[Value.ref b] below meth c H locs 600000 7302250 (lw_Z below #[Value.ref b] s) (F0 m 724 ls [])) :
    ∀ (IC : Nat → Int32) (AC : Nat → Nat → Int32) (TC : Int64) (IM : Nat → Int32) (AM : Nat → Nat → Int32) (TM : Int64), Rel IC AC TC IM AM TM → ∀ (H : Heap) (locs : List Loc), va_P (dC, dI) vwCl (wC a cy IC AC TC ++ wM b2 cy IM AM TM) H → va_D (fun q : Nat => s.heap.size ≤ q) (wC a cy IC AC TC ++ wM b2 cy IM AM TM) → va_S (fun q : Nat => s.heap.size ≤ q) s.heap H locs → ∀ ls : Array Slot, lv_has ls 4 [(0, .ref b), (1, .ref (a 0)), (2, .ref (b2 0)), (3, .int (iI (i : Int)))] → W p l e room_1 s m #[Value.ref b] below meth c H locs 600000 7302250 (lw_Z below #[Value.ref b] s) (F0 m 299 ls []) := by
  intro IC AC TC IM AM TM hrel H locs hP hD hS ls hl
  have hA : ∀ q : Nat, s.heap.size ≤ q → (fun q : Nat => s.heap.size ≤ q) q := fun _ h => h
  have hbA : ¬ (fun q : Nat => s.heap.size ≤ q) b := Nat.not_le.mpr hbl
  obtain ⟨r1, r2, h1, h2, h3, hrel2⟩ := hst IC AC TC IM AM TM hrel (xs (iI (i : Int) + iI 1).toNatClampNeg) (xs (iI (i : Int) + iI 2).toNatClampNeg)
  refine lv_aload_n hx hb dL_law_299 rfl (lv_at hl 1 rfl) ?_
  refine lv_aload_n hx hb dL_law_300 rfl (lv_at hl 0 rfl) ?_
  refine lv_iload_n hx hb dL_law_301 rfl (lv_at hl 3 rfl) ?_
  refine lv_iconst (v := iI 1) hx hb dL_law_302 rfl ?_
  refine lv_iadd hx hb dL_law_303 ?_
  refine va_sld hx hb hX hbl hbA hS (lw_in (k := 1) hL (by omega)) dL_law_304 ?_
  refine lv_aload_n hx hb dL_law_305 rfl (lv_at hl 0 rfl) ?_
  refine lv_iload_n hx hb dL_law_306 rfl (lv_at hl 3 rfl) ?_
  refine lv_iconst (v := iI 2) hx hb dL_law_307 rfl ?_
  refine lv_iadd hx hb dL_law_308 ?_
  refine va_sld hx hb hX hbl hbA hS (lw_in (k := 2) hL (by omega)) dL_law_309 ?_
  refine lawC_i (As := [.int (xs (iI (i : Int) + iI 1).toNatClampNeg), .int (xs (iI (i : Int) + iI 2).toNatClampNeg)]) (rest := []) hx hb hml hown hts (c_X7_lays_C l dC dI a cy N IC AC TC (xs (iI (i : Int) + iI 1).toNatClampNeg) (xs (iI (i : Int) + iI 2).toNatClampNeg) r1 h1) (cwV 2 hts gL_law_X7_lays rfl rfl rfl (by decide +kernel) ⟨Nat.le_of_ble_eq_true rfl, Nat.le_of_ble_eq_true rfl⟩) hK hP hD hS hA rfl hl.1 rfl (Nat.le_of_ble_eq_true rfl) dL_law_310 (Nat.le_refl _) (Nat.le_refl _) (fun H locs hP hD hS => ?_)
  refine lv_aload_n hx hb dL_law_313 rfl (lv_at hl 2 rfl) ?_
  refine lv_aload_n hx hb dL_law_314 rfl (lv_at hl 0 rfl) ?_
  refine lv_iload_n hx hb dL_law_315 rfl (lv_at hl 3 rfl) ?_
  refine lv_iconst (v := iI 1) hx hb dL_law_316 rfl ?_
  refine lv_iadd hx hb dL_law_317 ?_
  refine va_sld hx hb hX hbl hbA hS (lw_in (k := 1) hL (by omega)) dL_law_318 ?_
  refine lv_aload_n hx hb dL_law_319 rfl (lv_at hl 0 rfl) ?_
  refine lv_iload_n hx hb dL_law_320 rfl (lv_at hl 3 rfl) ?_
  refine lv_iconst (v := iI 2) hx hb dL_law_321 rfl ?_
  refine lv_iadd hx hb dL_law_322 ?_
  refine va_sld hx hb hX hbl hbA hS (lw_in (k := 2) hL (by omega)) dL_law_323 ?_
  refine lawM_i (As := [.int (xs (iI (i : Int) + iI 1).toNatClampNeg), .int (xs (iI (i : Int) + iI 2).toNatClampNeg)]) (rest := [.int r1.1]) hx hb hml hown hts (c_X8_lays_M l dC dI b2 cy N IM AM TM (xs (iI (i : Int) + iI 1).toNatClampNeg) (xs (iI (i : Int) + iI 2).toNatClampNeg) r2 h2) (cwV 2 hts gL_law_X8_lays rfl rfl rfl (by decide +kernel) ⟨Nat.le_of_ble_eq_true rfl, Nat.le_of_ble_eq_true rfl⟩) hK hP hD hS hA rfl hl.1 rfl (Nat.le_of_ble_eq_true rfl) dL_law_324 (Nat.le_refl _) (Nat.le_refl _) (fun H locs hP hD hS => ?_)
  refine lv_icmp_eq (tgt := 724) hx hb dL_law_327 (by decide) (fun _ => ?_) (fun q => absurd h3 q)
  exact kk r1.2.1 r1.2.2 TC r2.2.1 r2.2.2 TM hrel2 _ _ hP hD hS ls hl
set_option maxHeartbeats 8000000 in
set_option maxRecDepth 100000 in
theorem lw_spills {p : Program} {l : Launch} {e : Env} {s : State} {m : MethodId} {below : List Frame} {meth : Method} {c : Code} {dC : Nat → ClassId} {dI : Nat → Nat → Nat} {b L : Nat} {xs : Nat → Int32} {Rel : (Nat → Int32) → (Nat → Nat → Int32) → Int64 → (Nat → Int32) → (Nat → Nat → Int32) → Int64 → Prop} (N : Nat) (hst : St_spills N Rel) (a b2 : Nat → Nat) (cy : Nat → ClassId) (i : Nat) (hL : L ≤ 320) (hiL : i + 5 ≤ L) (hx : p.tables.exec = Jvm.exec) (hb : c.code = cL_law) (hml : c.maxLocals = 4) (hown : s.vm.findClass RL = some m.cls) (hts : ∀ w ∈ wsL_law, w.before #[Value.ref b] s = true) (hX : va_X b L xs s s.heap) (hbl : b < s.heap.size) (hK : va_K (dC, dI) vwCl (g_tys cy) s)
    (kk : ∀ (IC : Nat → Int32) (AC : Nat → Nat → Int32) (TC : Int64) (IM : Nat → Int32) (AM : Nat → Nat → Int32) (TM : Int64), Rel IC AC TC IM AM TM → ∀ (H : Heap) (locs : List Loc), va_P (dC, dI) vwCl (wC a cy IC AC TC ++ wM b2 cy IM AM TM) H → va_D (fun q : Nat => s.heap.size ≤ q) (wC a cy IC AC TC ++ wM b2 cy IM AM TM) → va_S (fun q : Nat => s.heap.size ≤ q) s.heap H locs → ∀ ls : Array Slot, lv_has ls 4 [(0, .ref b), (1, .ref (a 0)), (2, .ref (b2 0)), (3, .int (iI (i : Int)))] → W p l e room_1 s m #[Value.ref b] below meth c H locs 600000 7302250 (lw_Z below #[Value.ref b] s) (F0 m 724 ls [])) :
    ∀ (IC : Nat → Int32) (AC : Nat → Nat → Int32) (TC : Int64) (IM : Nat → Int32) (AM : Nat → Nat → Int32) (TM : Int64), Rel IC AC TC IM AM TM → ∀ (H : Heap) (locs : List Loc), va_P (dC, dI) vwCl (wC a cy IC AC TC ++ wM b2 cy IM AM TM) H → va_D (fun q : Nat => s.heap.size ≤ q) (wC a cy IC AC TC ++ wM b2 cy IM AM TM) → va_S (fun q : Nat => s.heap.size ≤ q) s.heap H locs → ∀ ls : Array Slot, lv_has ls 4 [(0, .ref b), (1, .ref (a 0)), (2, .ref (b2 0)), (3, .int (iI (i : Int)))] → W p l e room_1 s m #[Value.ref b] below meth c H locs 600000 7302250 (lw_Z below #[Value.ref b] s) (F0 m 332 ls []) := by
  intro IC AC TC IM AM TM hrel H locs hP hD hS ls hl
  have hA : ∀ q : Nat, s.heap.size ≤ q → (fun q : Nat => s.heap.size ≤ q) q := fun _ h => h
  have hbA : ¬ (fun q : Nat => s.heap.size ≤ q) b := Nat.not_le.mpr hbl
  obtain ⟨r1, r2, h1, h2, h3, hrel2⟩ := hst IC AC TC IM AM TM hrel (xs (iI (i : Int) + iI 1).toNatClampNeg)
  refine lv_aload_n hx hb dL_law_332 rfl (lv_at hl 1 rfl) ?_
  refine lv_aload_n hx hb dL_law_333 rfl (lv_at hl 0 rfl) ?_
  refine lv_iload_n hx hb dL_law_334 rfl (lv_at hl 3 rfl) ?_
  refine lv_iconst (v := iI 1) hx hb dL_law_335 rfl ?_
  refine lv_iadd hx hb dL_law_336 ?_
  refine va_sld hx hb hX hbl hbA hS (lw_in (k := 1) hL (by omega)) dL_law_337 ?_
  refine lawC_i (As := [.int (xs (iI (i : Int) + iI 1).toNatClampNeg)]) (rest := []) hx hb hml hown hts (c_X7_spills_C l dC dI a cy N IC AC TC (xs (iI (i : Int) + iI 1).toNatClampNeg) r1 h1) (cwV 1 hts gL_law_X7_spills rfl rfl rfl (by decide +kernel) ⟨Nat.le_of_ble_eq_true rfl, Nat.le_of_ble_eq_true rfl⟩) hK hP hD hS hA rfl hl.1 rfl (Nat.le_of_ble_eq_true rfl) dL_law_338 (Nat.le_refl _) (Nat.le_refl _) (fun H locs hP hD hS => ?_)
  refine lv_aload_n hx hb dL_law_341 rfl (lv_at hl 2 rfl) ?_
  refine lv_aload_n hx hb dL_law_342 rfl (lv_at hl 0 rfl) ?_
  refine lv_iload_n hx hb dL_law_343 rfl (lv_at hl 3 rfl) ?_
  refine lv_iconst (v := iI 1) hx hb dL_law_344 rfl ?_
  refine lv_iadd hx hb dL_law_345 ?_
  refine va_sld hx hb hX hbl hbA hS (lw_in (k := 1) hL (by omega)) dL_law_346 ?_
  refine lawM_i (As := [.int (xs (iI (i : Int) + iI 1).toNatClampNeg)]) (rest := [.int r1.1]) hx hb hml hown hts (c_X8_spills_M l dC dI b2 cy N IM AM TM (xs (iI (i : Int) + iI 1).toNatClampNeg) r2 h2) (cwV 1 hts gL_law_X8_spills rfl rfl rfl (by decide +kernel) ⟨Nat.le_of_ble_eq_true rfl, Nat.le_of_ble_eq_true rfl⟩) hK hP hD hS hA rfl hl.1 rfl (Nat.le_of_ble_eq_true rfl) dL_law_347 (Nat.le_refl _) (Nat.le_refl _) (fun H locs hP hD hS => ?_)
  refine lv_icmp_eq (tgt := 724) hx hb dL_law_350 (by decide) (fun _ => ?_) (fun q => absurd h3 q)
  exact kk r1.2.1 r1.2.2 TC r2.2.1 r2.2.2 TM hrel2 _ _ hP hD hS ls hl
set_option maxHeartbeats 8000000 in
set_option maxRecDepth 100000 in
theorem lw_frosts {p : Program} {l : Launch} {e : Env} {s : State} {m : MethodId} {below : List Frame} {meth : Method} {c : Code} {dC : Nat → ClassId} {dI : Nat → Nat → Nat} {b L : Nat} {xs : Nat → Int32} {Rel : (Nat → Int32) → (Nat → Nat → Int32) → Int64 → (Nat → Int32) → (Nat → Nat → Int32) → Int64 → Prop} (N : Nat) (hst : St_frosts N Rel) (a b2 : Nat → Nat) (cy : Nat → ClassId) (i : Nat) (hL : L ≤ 320) (hiL : i + 5 ≤ L) (hx : p.tables.exec = Jvm.exec) (hb : c.code = cL_law) (hml : c.maxLocals = 4) (hown : s.vm.findClass RL = some m.cls) (hts : ∀ w ∈ wsL_law, w.before #[Value.ref b] s = true) (hX : va_X b L xs s s.heap) (hbl : b < s.heap.size) (hK : va_K (dC, dI) vwCl (g_tys cy) s)
    (kk : ∀ (IC : Nat → Int32) (AC : Nat → Nat → Int32) (TC : Int64) (IM : Nat → Int32) (AM : Nat → Nat → Int32) (TM : Int64), Rel IC AC TC IM AM TM → ∀ (H : Heap) (locs : List Loc), va_P (dC, dI) vwCl (wC a cy IC AC TC ++ wM b2 cy IM AM TM) H → va_D (fun q : Nat => s.heap.size ≤ q) (wC a cy IC AC TC ++ wM b2 cy IM AM TM) → va_S (fun q : Nat => s.heap.size ≤ q) s.heap H locs → ∀ ls : Array Slot, lv_has ls 4 [(0, .ref b), (1, .ref (a 0)), (2, .ref (b2 0)), (3, .int (iI (i : Int)))] → W p l e room_1 s m #[Value.ref b] below meth c H locs 600000 7302250 (lw_Z below #[Value.ref b] s) (F0 m 724 ls [])) :
    ∀ (IC : Nat → Int32) (AC : Nat → Nat → Int32) (TC : Int64) (IM : Nat → Int32) (AM : Nat → Nat → Int32) (TM : Int64), Rel IC AC TC IM AM TM → ∀ (H : Heap) (locs : List Loc), va_P (dC, dI) vwCl (wC a cy IC AC TC ++ wM b2 cy IM AM TM) H → va_D (fun q : Nat => s.heap.size ≤ q) (wC a cy IC AC TC ++ wM b2 cy IM AM TM) → va_S (fun q : Nat => s.heap.size ≤ q) s.heap H locs → ∀ ls : Array Slot, lv_has ls 4 [(0, .ref b), (1, .ref (a 0)), (2, .ref (b2 0)), (3, .int (iI (i : Int)))] → W p l e room_1 s m #[Value.ref b] below meth c H locs 600000 7302250 (lw_Z below #[Value.ref b] s) (F0 m 355 ls []) := by
  intro IC AC TC IM AM TM hrel H locs hP hD hS ls hl
  have hA : ∀ q : Nat, s.heap.size ≤ q → (fun q : Nat => s.heap.size ≤ q) q := fun _ h => h
  have hbA : ¬ (fun q : Nat => s.heap.size ≤ q) b := Nat.not_le.mpr hbl
  obtain ⟨r1, r2, h1, h2, h3, hrel2⟩ := hst IC AC TC IM AM TM hrel (xs (iI (i : Int) + iI 1).toNatClampNeg)
  refine lv_aload_n hx hb dL_law_355 rfl (lv_at hl 1 rfl) ?_
  refine lv_aload_n hx hb dL_law_356 rfl (lv_at hl 0 rfl) ?_
  refine lv_iload_n hx hb dL_law_357 rfl (lv_at hl 3 rfl) ?_
  refine lv_iconst (v := iI 1) hx hb dL_law_358 rfl ?_
  refine lv_iadd hx hb dL_law_359 ?_
  refine va_sld hx hb hX hbl hbA hS (lw_in (k := 1) hL (by omega)) dL_law_360 ?_
  refine lawC_i (As := [.int (xs (iI (i : Int) + iI 1).toNatClampNeg)]) (rest := []) hx hb hml hown hts (c_X7_frosts_C l dC dI a cy N IC AC TC (xs (iI (i : Int) + iI 1).toNatClampNeg) r1 h1) (cwV 1 hts gL_law_X7_frosts rfl rfl rfl (by decide +kernel) ⟨Nat.le_of_ble_eq_true rfl, Nat.le_of_ble_eq_true rfl⟩) hK hP hD hS hA rfl hl.1 rfl (Nat.le_of_ble_eq_true rfl) dL_law_361 (Nat.le_refl _) (Nat.le_refl _) (fun H locs hP hD hS => ?_)
  refine lv_aload_n hx hb dL_law_364 rfl (lv_at hl 2 rfl) ?_
  refine lv_aload_n hx hb dL_law_365 rfl (lv_at hl 0 rfl) ?_
  refine lv_iload_n hx hb dL_law_366 rfl (lv_at hl 3 rfl) ?_
  refine lv_iconst (v := iI 1) hx hb dL_law_367 rfl ?_
  refine lv_iadd hx hb dL_law_368 ?_
  refine va_sld hx hb hX hbl hbA hS (lw_in (k := 1) hL (by omega)) dL_law_369 ?_
  refine lawM_i (As := [.int (xs (iI (i : Int) + iI 1).toNatClampNeg)]) (rest := [.int r1.1]) hx hb hml hown hts (c_X8_frosts_M l dC dI b2 cy N IM AM TM (xs (iI (i : Int) + iI 1).toNatClampNeg) r2 h2) (cwV 1 hts gL_law_X8_frosts rfl rfl rfl (by decide +kernel) ⟨Nat.le_of_ble_eq_true rfl, Nat.le_of_ble_eq_true rfl⟩) hK hP hD hS hA rfl hl.1 rfl (Nat.le_of_ble_eq_true rfl) dL_law_370 (Nat.le_refl _) (Nat.le_refl _) (fun H locs hP hD hS => ?_)
  refine lv_icmp_eq (tgt := 724) hx hb dL_law_373 (by decide) (fun _ => ?_) (fun q => absurd h3 q)
  exact kk r1.2.1 r1.2.2 TC r2.2.1 r2.2.2 TM hrel2 _ _ hP hD hS ls hl
set_option maxHeartbeats 8000000 in
set_option maxRecDepth 100000 in
theorem lw_boils {p : Program} {l : Launch} {e : Env} {s : State} {m : MethodId} {below : List Frame} {meth : Method} {c : Code} {dC : Nat → ClassId} {dI : Nat → Nat → Nat} {b L : Nat} {xs : Nat → Int32} {Rel : (Nat → Int32) → (Nat → Nat → Int32) → Int64 → (Nat → Int32) → (Nat → Nat → Int32) → Int64 → Prop} (N : Nat) (hst : St_boils N Rel) (a b2 : Nat → Nat) (cy : Nat → ClassId) (i : Nat) (hL : L ≤ 320) (hiL : i + 5 ≤ L) (hx : p.tables.exec = Jvm.exec) (hb : c.code = cL_law) (hml : c.maxLocals = 4) (hown : s.vm.findClass RL = some m.cls) (hts : ∀ w ∈ wsL_law, w.before #[Value.ref b] s = true) (hX : va_X b L xs s s.heap) (hbl : b < s.heap.size) (hK : va_K (dC, dI) vwCl (g_tys cy) s)
    (kk : ∀ (IC : Nat → Int32) (AC : Nat → Nat → Int32) (TC : Int64) (IM : Nat → Int32) (AM : Nat → Nat → Int32) (TM : Int64), Rel IC AC TC IM AM TM → ∀ (H : Heap) (locs : List Loc), va_P (dC, dI) vwCl (wC a cy IC AC TC ++ wM b2 cy IM AM TM) H → va_D (fun q : Nat => s.heap.size ≤ q) (wC a cy IC AC TC ++ wM b2 cy IM AM TM) → va_S (fun q : Nat => s.heap.size ≤ q) s.heap H locs → ∀ ls : Array Slot, lv_has ls 4 [(0, .ref b), (1, .ref (a 0)), (2, .ref (b2 0)), (3, .int (iI (i : Int)))] → W p l e room_1 s m #[Value.ref b] below meth c H locs 600000 7302250 (lw_Z below #[Value.ref b] s) (F0 m 724 ls [])) :
    ∀ (IC : Nat → Int32) (AC : Nat → Nat → Int32) (TC : Int64) (IM : Nat → Int32) (AM : Nat → Nat → Int32) (TM : Int64), Rel IC AC TC IM AM TM → ∀ (H : Heap) (locs : List Loc), va_P (dC, dI) vwCl (wC a cy IC AC TC ++ wM b2 cy IM AM TM) H → va_D (fun q : Nat => s.heap.size ≤ q) (wC a cy IC AC TC ++ wM b2 cy IM AM TM) → va_S (fun q : Nat => s.heap.size ≤ q) s.heap H locs → ∀ ls : Array Slot, lv_has ls 4 [(0, .ref b), (1, .ref (a 0)), (2, .ref (b2 0)), (3, .int (iI (i : Int)))] → W p l e room_1 s m #[Value.ref b] below meth c H locs 600000 7302250 (lw_Z below #[Value.ref b] s) (F0 m 378 ls []) := by
  intro IC AC TC IM AM TM hrel H locs hP hD hS ls hl
  have hA : ∀ q : Nat, s.heap.size ≤ q → (fun q : Nat => s.heap.size ≤ q) q := fun _ h => h
  have hbA : ¬ (fun q : Nat => s.heap.size ≤ q) b := Nat.not_le.mpr hbl
  obtain ⟨r1, r2, h1, h2, h3, hrel2⟩ := hst IC AC TC IM AM TM hrel
  refine lv_aload_n hx hb dL_law_378 rfl (lv_at hl 1 rfl) ?_
  refine lawC_i (As := []) (rest := []) hx hb hml hown hts (c_X7_boils_C l dC dI a cy N IC AC TC r1 h1) (cwV 0 hts gL_law_X7_boils rfl rfl rfl (by decide +kernel) ⟨Nat.le_of_ble_eq_true rfl, Nat.le_of_ble_eq_true rfl⟩) hK hP hD hS hA rfl hl.1 rfl (Nat.le_of_ble_eq_true rfl) dL_law_379 (Nat.le_refl _) (Nat.le_refl _) (fun H locs hP hD hS => ?_)
  refine lv_aload_n hx hb dL_law_382 rfl (lv_at hl 2 rfl) ?_
  refine lawM_i (As := []) (rest := [.int r1.1]) hx hb hml hown hts (c_X8_boils_M l dC dI b2 cy N IM AM TM r2 h2) (cwV 0 hts gL_law_X8_boils rfl rfl rfl (by decide +kernel) ⟨Nat.le_of_ble_eq_true rfl, Nat.le_of_ble_eq_true rfl⟩) hK hP hD hS hA rfl hl.1 rfl (Nat.le_of_ble_eq_true rfl) dL_law_383 (Nat.le_refl _) (Nat.le_refl _) (fun H locs hP hD hS => ?_)
  refine lv_icmp_eq (tgt := 724) hx hb dL_law_386 (by decide) (fun _ => ?_) (fun q => absurd h3 q)
  exact kk r1.2.1 r1.2.2 TC r2.2.1 r2.2.2 TM hrel2 _ _ hP hD hS ls hl
set_option maxHeartbeats 8000000 in
set_option maxRecDepth 100000 in
theorem lw_undo {p : Program} {l : Launch} {e : Env} {s : State} {m : MethodId} {below : List Frame} {meth : Method} {c : Code} {dC : Nat → ClassId} {dI : Nat → Nat → Nat} {b L : Nat} {xs : Nat → Int32} {Rel : (Nat → Int32) → (Nat → Nat → Int32) → Int64 → (Nat → Int32) → (Nat → Nat → Int32) → Int64 → Prop} (N : Nat) (hst : St_undo N Rel) (a b2 : Nat → Nat) (cy : Nat → ClassId) (i : Nat) (hL : L ≤ 320) (hiL : i + 5 ≤ L) (hx : p.tables.exec = Jvm.exec) (hb : c.code = cL_law) (hml : c.maxLocals = 4) (hown : s.vm.findClass RL = some m.cls) (hts : ∀ w ∈ wsL_law, w.before #[Value.ref b] s = true) (hX : va_X b L xs s s.heap) (hbl : b < s.heap.size) (hK : va_K (dC, dI) vwCl (g_tys cy) s)
    (kk : ∀ (IC : Nat → Int32) (AC : Nat → Nat → Int32) (TC : Int64) (IM : Nat → Int32) (AM : Nat → Nat → Int32) (TM : Int64), Rel IC AC TC IM AM TM → ∀ (H : Heap) (locs : List Loc), va_P (dC, dI) vwCl (wC a cy IC AC TC ++ wM b2 cy IM AM TM) H → va_D (fun q : Nat => s.heap.size ≤ q) (wC a cy IC AC TC ++ wM b2 cy IM AM TM) → va_S (fun q : Nat => s.heap.size ≤ q) s.heap H locs → ∀ ls : Array Slot, lv_has ls 4 [(0, .ref b), (1, .ref (a 0)), (2, .ref (b2 0)), (3, .int (iI (i : Int)))] → W p l e room_1 s m #[Value.ref b] below meth c H locs 600000 7302250 (lw_Z below #[Value.ref b] s) (F0 m 724 ls [])) :
    ∀ (IC : Nat → Int32) (AC : Nat → Nat → Int32) (TC : Int64) (IM : Nat → Int32) (AM : Nat → Nat → Int32) (TM : Int64), Rel IC AC TC IM AM TM → ∀ (H : Heap) (locs : List Loc), va_P (dC, dI) vwCl (wC a cy IC AC TC ++ wM b2 cy IM AM TM) H → va_D (fun q : Nat => s.heap.size ≤ q) (wC a cy IC AC TC ++ wM b2 cy IM AM TM) → va_S (fun q : Nat => s.heap.size ≤ q) s.heap H locs → ∀ ls : Array Slot, lv_has ls 4 [(0, .ref b), (1, .ref (a 0)), (2, .ref (b2 0)), (3, .int (iI (i : Int)))] → W p l e room_1 s m #[Value.ref b] below meth c H locs 600000 7302250 (lw_Z below #[Value.ref b] s) (F0 m 391 ls []) := by
  intro IC AC TC IM AM TM hrel H locs hP hD hS ls hl
  have hA : ∀ q : Nat, s.heap.size ≤ q → (fun q : Nat => s.heap.size ≤ q) q := fun _ h => h
  have hbA : ¬ (fun q : Nat => s.heap.size ≤ q) b := Nat.not_le.mpr hbl
  obtain ⟨r1, r2, h1, h2, h3, hrel2⟩ := hst IC AC TC IM AM TM hrel
  refine lv_aload_n hx hb dL_law_391 rfl (lv_at hl 1 rfl) ?_
  refine lawC_i (As := []) (rest := []) hx hb hml hown hts (c_X7_undo_C l dC dI a cy N IC AC TC r1 h1) (cwV 0 hts gL_law_X7_undo rfl rfl rfl (by decide +kernel) ⟨Nat.le_of_ble_eq_true rfl, Nat.le_of_ble_eq_true rfl⟩) hK hP hD hS hA rfl hl.1 rfl (Nat.le_of_ble_eq_true rfl) dL_law_392 (Nat.le_refl _) (Nat.le_refl _) (fun H locs hP hD hS => ?_)
  refine lv_aload_n hx hb dL_law_395 rfl (lv_at hl 2 rfl) ?_
  refine lawM_i (As := []) (rest := [.int r1.1]) hx hb hml hown hts (c_X8_undo_M l dC dI b2 cy N IM AM TM r2 h2) (cwV 0 hts gL_law_X8_undo rfl rfl rfl (by decide +kernel) ⟨Nat.le_of_ble_eq_true rfl, Nat.le_of_ble_eq_true rfl⟩) hK hP hD hS hA rfl hl.1 rfl (Nat.le_of_ble_eq_true rfl) dL_law_396 (Nat.le_refl _) (Nat.le_refl _) (fun H locs hP hD hS => ?_)
  refine lv_icmp_eq (tgt := 724) hx hb dL_law_399 (by decide) (fun _ => ?_) (fun q => absurd h3 q)
  exact kk r1.2.1 r1.2.2 TC r2.2.1 r2.2.2 TM hrel2 _ _ hP hD hS ls hl
set_option maxHeartbeats 8000000 in
set_option maxRecDepth 100000 in
theorem lw_morning {p : Program} {l : Launch} {e : Env} {s : State} {m : MethodId} {below : List Frame} {meth : Method} {c : Code} {dC : Nat → ClassId} {dI : Nat → Nat → Nat} {b L : Nat} {xs : Nat → Int32} {Rel : (Nat → Int32) → (Nat → Nat → Int32) → Int64 → (Nat → Int32) → (Nat → Nat → Int32) → Int64 → Prop} (N : Nat) (hst : St_morning N Rel) (a b2 : Nat → Nat) (cy : Nat → ClassId) (i : Nat) (hL : L ≤ 320) (hiL : i + 5 ≤ L) (hx : p.tables.exec = Jvm.exec) (hb : c.code = cL_law) (hml : c.maxLocals = 4) (hown : s.vm.findClass RL = some m.cls) (hts : ∀ w ∈ wsL_law, w.before #[Value.ref b] s = true) (hX : va_X b L xs s s.heap) (hbl : b < s.heap.size) (hK : va_K (dC, dI) vwCl (g_tys cy) s)
    (kk : ∀ (IC : Nat → Int32) (AC : Nat → Nat → Int32) (TC : Int64) (IM : Nat → Int32) (AM : Nat → Nat → Int32) (TM : Int64), Rel IC AC TC IM AM TM → ∀ (H : Heap) (locs : List Loc), va_P (dC, dI) vwCl (wC a cy IC AC TC ++ wM b2 cy IM AM TM) H → va_D (fun q : Nat => s.heap.size ≤ q) (wC a cy IC AC TC ++ wM b2 cy IM AM TM) → va_S (fun q : Nat => s.heap.size ≤ q) s.heap H locs → ∀ ls : Array Slot, lv_has ls 4 [(0, .ref b), (1, .ref (a 0)), (2, .ref (b2 0)), (3, .int (iI (i : Int)))] → W p l e room_1 s m #[Value.ref b] below meth c H locs 600000 7302250 (lw_Z below #[Value.ref b] s) (F0 m 724 ls [])) :
    ∀ (IC : Nat → Int32) (AC : Nat → Nat → Int32) (TC : Int64) (IM : Nat → Int32) (AM : Nat → Nat → Int32) (TM : Int64), Rel IC AC TC IM AM TM → ∀ (H : Heap) (locs : List Loc), va_P (dC, dI) vwCl (wC a cy IC AC TC ++ wM b2 cy IM AM TM) H → va_D (fun q : Nat => s.heap.size ≤ q) (wC a cy IC AC TC ++ wM b2 cy IM AM TM) → va_S (fun q : Nat => s.heap.size ≤ q) s.heap H locs → ∀ ls : Array Slot, lv_has ls 4 [(0, .ref b), (1, .ref (a 0)), (2, .ref (b2 0)), (3, .int (iI (i : Int)))] → W p l e room_1 s m #[Value.ref b] below meth c H locs 600000 7302250 (lw_Z below #[Value.ref b] s) (F0 m 404 ls []) := by
  intro IC AC TC IM AM TM hrel H locs hP hD hS ls hl
  have hA : ∀ q : Nat, s.heap.size ≤ q → (fun q : Nat => s.heap.size ≤ q) q := fun _ h => h
  have hbA : ¬ (fun q : Nat => s.heap.size ≤ q) b := Nat.not_le.mpr hbl
  obtain ⟨r1, r2, h1, h2, h3, hrel2⟩ := hst IC AC TC IM AM TM hrel (xs (iI (i : Int) + iI 1).toNatClampNeg) (xs (iI (i : Int) + iI 2).toNatClampNeg)
  refine lv_aload_n hx hb dL_law_404 rfl (lv_at hl 1 rfl) ?_
  refine lv_aload_n hx hb dL_law_405 rfl (lv_at hl 0 rfl) ?_
  refine lv_iload_n hx hb dL_law_406 rfl (lv_at hl 3 rfl) ?_
  refine lv_iconst (v := iI 1) hx hb dL_law_407 rfl ?_
  refine lv_iadd hx hb dL_law_408 ?_
  refine va_sld hx hb hX hbl hbA hS (lw_in (k := 1) hL (by omega)) dL_law_409 ?_
  refine lv_aload_n hx hb dL_law_410 rfl (lv_at hl 0 rfl) ?_
  refine lv_iload_n hx hb dL_law_411 rfl (lv_at hl 3 rfl) ?_
  refine lv_iconst (v := iI 2) hx hb dL_law_412 rfl ?_
  refine lv_iadd hx hb dL_law_413 ?_
  refine va_sld hx hb hX hbl hbA hS (lw_in (k := 2) hL (by omega)) dL_law_414 ?_
  refine lawC_i (As := [.int (xs (iI (i : Int) + iI 1).toNatClampNeg), .int (xs (iI (i : Int) + iI 2).toNatClampNeg)]) (rest := []) hx hb hml hown hts (c_X7_morning_C l dC dI a cy N IC AC TC (xs (iI (i : Int) + iI 1).toNatClampNeg) (xs (iI (i : Int) + iI 2).toNatClampNeg) r1 h1) (cwV 2 hts gL_law_X7_morning rfl rfl rfl (by decide +kernel) ⟨Nat.le_of_ble_eq_true rfl, Nat.le_of_ble_eq_true rfl⟩) hK hP hD hS hA rfl hl.1 rfl (Nat.le_of_ble_eq_true rfl) dL_law_415 (Nat.le_refl _) (Nat.le_refl _) (fun H locs hP hD hS => ?_)
  refine lv_aload_n hx hb dL_law_418 rfl (lv_at hl 2 rfl) ?_
  refine lv_aload_n hx hb dL_law_419 rfl (lv_at hl 0 rfl) ?_
  refine lv_iload_n hx hb dL_law_420 rfl (lv_at hl 3 rfl) ?_
  refine lv_iconst (v := iI 1) hx hb dL_law_421 rfl ?_
  refine lv_iadd hx hb dL_law_422 ?_
  refine va_sld hx hb hX hbl hbA hS (lw_in (k := 1) hL (by omega)) dL_law_423 ?_
  refine lv_aload_n hx hb dL_law_424 rfl (lv_at hl 0 rfl) ?_
  refine lv_iload_n hx hb dL_law_425 rfl (lv_at hl 3 rfl) ?_
  refine lv_iconst (v := iI 2) hx hb dL_law_426 rfl ?_
  refine lv_iadd hx hb dL_law_427 ?_
  refine va_sld hx hb hX hbl hbA hS (lw_in (k := 2) hL (by omega)) dL_law_428 ?_
  refine lawM_i (As := [.int (xs (iI (i : Int) + iI 1).toNatClampNeg), .int (xs (iI (i : Int) + iI 2).toNatClampNeg)]) (rest := [.int r1]) hx hb hml hown hts (c_X8_morning_M l dC dI b2 cy N IM AM TM (xs (iI (i : Int) + iI 1).toNatClampNeg) (xs (iI (i : Int) + iI 2).toNatClampNeg) r2 h2) (cwV 2 hts gL_law_X8_morning rfl rfl rfl (by decide +kernel) ⟨Nat.le_of_ble_eq_true rfl, Nat.le_of_ble_eq_true rfl⟩) hK hP hD hS hA rfl hl.1 rfl (Nat.le_of_ble_eq_true rfl) dL_law_429 (Nat.le_refl _) (Nat.le_refl _) (fun H locs hP hD hS => ?_)
  refine lv_icmp_eq (tgt := 724) hx hb dL_law_432 (by decide) (fun _ => ?_) (fun q => absurd h3 q)
  exact kk IC AC TC IM AM TM hrel2 _ _ hP hD hS ls hl
set_option maxHeartbeats 8000000 in
set_option maxRecDepth 100000 in
theorem lw_kept {p : Program} {l : Launch} {e : Env} {s : State} {m : MethodId} {below : List Frame} {meth : Method} {c : Code} {dC : Nat → ClassId} {dI : Nat → Nat → Nat} {b L : Nat} {xs : Nat → Int32} {Rel : (Nat → Int32) → (Nat → Nat → Int32) → Int64 → (Nat → Int32) → (Nat → Nat → Int32) → Int64 → Prop} (N : Nat) (hst : St_kept N Rel) (a b2 : Nat → Nat) (cy : Nat → ClassId) (i : Nat) (hL : L ≤ 320) (hiL : i + 5 ≤ L) (hx : p.tables.exec = Jvm.exec) (hb : c.code = cL_law) (hml : c.maxLocals = 4) (hown : s.vm.findClass RL = some m.cls) (hts : ∀ w ∈ wsL_law, w.before #[Value.ref b] s = true) (hX : va_X b L xs s s.heap) (hbl : b < s.heap.size) (hK : va_K (dC, dI) vwCl (g_tys cy) s)
    (kk : ∀ (IC : Nat → Int32) (AC : Nat → Nat → Int32) (TC : Int64) (IM : Nat → Int32) (AM : Nat → Nat → Int32) (TM : Int64), Rel IC AC TC IM AM TM → ∀ (H : Heap) (locs : List Loc), va_P (dC, dI) vwCl (wC a cy IC AC TC ++ wM b2 cy IM AM TM) H → va_D (fun q : Nat => s.heap.size ≤ q) (wC a cy IC AC TC ++ wM b2 cy IM AM TM) → va_S (fun q : Nat => s.heap.size ≤ q) s.heap H locs → ∀ ls : Array Slot, lv_has ls 4 [(0, .ref b), (1, .ref (a 0)), (2, .ref (b2 0)), (3, .int (iI (i : Int)))] → W p l e room_1 s m #[Value.ref b] below meth c H locs 600000 7302250 (lw_Z below #[Value.ref b] s) (F0 m 724 ls [])) :
    ∀ (IC : Nat → Int32) (AC : Nat → Nat → Int32) (TC : Int64) (IM : Nat → Int32) (AM : Nat → Nat → Int32) (TM : Int64), Rel IC AC TC IM AM TM → ∀ (H : Heap) (locs : List Loc), va_P (dC, dI) vwCl (wC a cy IC AC TC ++ wM b2 cy IM AM TM) H → va_D (fun q : Nat => s.heap.size ≤ q) (wC a cy IC AC TC ++ wM b2 cy IM AM TM) → va_S (fun q : Nat => s.heap.size ≤ q) s.heap H locs → ∀ ls : Array Slot, lv_has ls 4 [(0, .ref b), (1, .ref (a 0)), (2, .ref (b2 0)), (3, .int (iI (i : Int)))] → W p l e room_1 s m #[Value.ref b] below meth c H locs 600000 7302250 (lw_Z below #[Value.ref b] s) (F0 m 437 ls []) := by
  intro IC AC TC IM AM TM hrel H locs hP hD hS ls hl
  have hA : ∀ q : Nat, s.heap.size ≤ q → (fun q : Nat => s.heap.size ≤ q) q := fun _ h => h
  have hbA : ¬ (fun q : Nat => s.heap.size ≤ q) b := Nat.not_le.mpr hbl
  obtain ⟨r1, r2, h1, h2, h3, hrel2⟩ := hst IC AC TC IM AM TM hrel (xs (iI (i : Int) + iI 1).toNatClampNeg)
  refine lv_aload_n hx hb dL_law_437 rfl (lv_at hl 1 rfl) ?_
  refine lv_aload_n hx hb dL_law_438 rfl (lv_at hl 0 rfl) ?_
  refine lv_iload_n hx hb dL_law_439 rfl (lv_at hl 3 rfl) ?_
  refine lv_iconst (v := iI 1) hx hb dL_law_440 rfl ?_
  refine lv_iadd hx hb dL_law_441 ?_
  refine va_sld hx hb hX hbl hbA hS (lw_in (k := 1) hL (by omega)) dL_law_442 ?_
  refine lawC_i (As := [.int (xs (iI (i : Int) + iI 1).toNatClampNeg)]) (rest := []) hx hb hml hown hts (c_X7_kept_C l dC dI a cy N IC AC TC (xs (iI (i : Int) + iI 1).toNatClampNeg) r1 h1) (cwV 1 hts gL_law_X7_kept rfl rfl rfl (by decide +kernel) ⟨Nat.le_of_ble_eq_true rfl, Nat.le_of_ble_eq_true rfl⟩) hK hP hD hS hA rfl hl.1 rfl (Nat.le_of_ble_eq_true rfl) dL_law_443 (Nat.le_refl _) (Nat.le_refl _) (fun H locs hP hD hS => ?_)
  refine lv_aload_n hx hb dL_law_446 rfl (lv_at hl 2 rfl) ?_
  refine lv_aload_n hx hb dL_law_447 rfl (lv_at hl 0 rfl) ?_
  refine lv_iload_n hx hb dL_law_448 rfl (lv_at hl 3 rfl) ?_
  refine lv_iconst (v := iI 1) hx hb dL_law_449 rfl ?_
  refine lv_iadd hx hb dL_law_450 ?_
  refine va_sld hx hb hX hbl hbA hS (lw_in (k := 1) hL (by omega)) dL_law_451 ?_
  refine lawM_i (As := [.int (xs (iI (i : Int) + iI 1).toNatClampNeg)]) (rest := [.int r1.1]) hx hb hml hown hts (c_X8_kept_M l dC dI b2 cy N IM AM TM (xs (iI (i : Int) + iI 1).toNatClampNeg) r2 h2) (cwV 1 hts gL_law_X8_kept rfl rfl rfl (by decide +kernel) ⟨Nat.le_of_ble_eq_true rfl, Nat.le_of_ble_eq_true rfl⟩) hK hP hD hS hA rfl hl.1 rfl (Nat.le_of_ble_eq_true rfl) dL_law_452 (Nat.le_refl _) (Nat.le_refl _) (fun H locs hP hD hS => ?_)
  refine lv_icmp_eq (tgt := 724) hx hb dL_law_455 (by decide) (fun _ => ?_) (fun q => absurd h3 q)
  exact kk IC r1.2 TC IM r2.2 TM hrel2 _ _ hP hD hS ls hl
set_option maxHeartbeats 8000000 in
set_option maxRecDepth 100000 in
theorem lw_beds {p : Program} {l : Launch} {e : Env} {s : State} {m : MethodId} {below : List Frame} {meth : Method} {c : Code} {dC : Nat → ClassId} {dI : Nat → Nat → Nat} {b L : Nat} {xs : Nat → Int32} {Rel : (Nat → Int32) → (Nat → Nat → Int32) → Int64 → (Nat → Int32) → (Nat → Nat → Int32) → Int64 → Prop} {tb : Nat} (N : Nat) (hst : St_beds N Rel) (a b2 : Nat → Nat) (cy : Nat → ClassId) (i : Nat) (hL : L ≤ 320) (hiL : i + 5 ≤ L) (hx : p.tables.exec = Jvm.exec) (hb : c.code = cL_law) (hml : c.maxLocals = 4) (hown : s.vm.findClass RL = some m.cls) (hts : ∀ w ∈ wsL_law, w.before #[Value.ref b] s = true) (hX : va_X b L xs s s.heap) (hbl : b < s.heap.size) (hT : va_T .int tb 6 (fun _ => .int 0) (fun q : Nat => s.heap.size ≤ q) s s.heap) (hZ : va_Z "WarmBottles" "ONE_BED" "[I" (.ref tb) (fun q : Nat => s.heap.size ≤ q) s s.heap) (hK : va_K (dC, dI) vwCl (g_tys cy) s)
    (kk : ∀ (IC : Nat → Int32) (AC : Nat → Nat → Int32) (TC : Int64) (IM : Nat → Int32) (AM : Nat → Nat → Int32) (TM : Int64), Rel IC AC TC IM AM TM → ∀ (H : Heap) (locs : List Loc), va_P (dC, dI) vwCl (wC a cy IC AC TC ++ wM b2 cy IM AM TM) H → va_D (fun q : Nat => s.heap.size ≤ q) (wC a cy IC AC TC ++ wM b2 cy IM AM TM) → va_S (fun q : Nat => s.heap.size ≤ q) s.heap H locs → ∀ ls : Array Slot, lv_has ls 4 [(0, .ref b), (1, .ref (a 0)), (2, .ref (b2 0)), (3, .int (iI (i : Int)))] → W p l e room_1 s m #[Value.ref b] below meth c H locs 600000 7302250 (lw_Z below #[Value.ref b] s) (F0 m 724 ls [])) :
    ∀ (IC : Nat → Int32) (AC : Nat → Nat → Int32) (TC : Int64) (IM : Nat → Int32) (AM : Nat → Nat → Int32) (TM : Int64), Rel IC AC TC IM AM TM → ∀ (H : Heap) (locs : List Loc), va_P (dC, dI) vwCl (wC a cy IC AC TC ++ wM b2 cy IM AM TM) H → va_D (fun q : Nat => s.heap.size ≤ q) (wC a cy IC AC TC ++ wM b2 cy IM AM TM) → va_S (fun q : Nat => s.heap.size ≤ q) s.heap H locs → ∀ ls : Array Slot, lv_has ls 4 [(0, .ref b), (1, .ref (a 0)), (2, .ref (b2 0)), (3, .int (iI (i : Int)))] → W p l e room_1 s m #[Value.ref b] below meth c H locs 600000 7302250 (lw_Z below #[Value.ref b] s) (F0 m 460 ls []) := by
  intro IC AC TC IM AM TM hrel H locs hP hD hS ls hl
  have hA : ∀ q : Nat, s.heap.size ≤ q → (fun q : Nat => s.heap.size ≤ q) q := fun _ h => h
  have hbA : ¬ (fun q : Nat => s.heap.size ≤ q) b := Nat.not_le.mpr hbl
  obtain ⟨r1, r2, h1, h2, h3, hrel2⟩ := hst IC AC TC IM AM TM hrel (xs (iI (i : Int) + iI 1).toNatClampNeg)
  refine lv_aload_n hx hb dL_law_460 rfl (lv_at hl 1 rfl) ?_
  refine lv_aload_n hx hb dL_law_461 rfl (lv_at hl 0 rfl) ?_
  refine lv_iload_n hx hb dL_law_462 rfl (lv_at hl 3 rfl) ?_
  refine lv_iconst (v := iI 1) hx hb dL_law_463 rfl ?_
  refine lv_iadd hx hb dL_law_464 ?_
  refine va_sld hx hb hX hbl hbA hS (lw_in (k := 1) hL (by omega)) dL_law_465 ?_
  refine lawC_iT (As := [.int (xs (iI (i : Int) + iI 1).toNatClampNeg)]) (rest := []) hx hb hml hown hts (c_X7_beds_C l dC dI a cy tb N IC AC TC (xs (iI (i : Int) + iI 1).toNatClampNeg) r1 h1) (cwV 1 hts gL_law_X7_beds rfl rfl rfl (by decide +kernel) ⟨Nat.le_of_ble_eq_true rfl, Nat.le_of_ble_eq_true rfl⟩) hK hP hD hS hA hT hZ rfl hl.1 rfl (Nat.le_of_ble_eq_true rfl) dL_law_466 (Nat.le_refl _) (Nat.le_refl _) (fun H locs hP hD hS => ?_)
  refine lv_aload_n hx hb dL_law_469 rfl (lv_at hl 2 rfl) ?_
  refine lv_aload_n hx hb dL_law_470 rfl (lv_at hl 0 rfl) ?_
  refine lv_iload_n hx hb dL_law_471 rfl (lv_at hl 3 rfl) ?_
  refine lv_iconst (v := iI 1) hx hb dL_law_472 rfl ?_
  refine lv_iadd hx hb dL_law_473 ?_
  refine va_sld hx hb hX hbl hbA hS (lw_in (k := 1) hL (by omega)) dL_law_474 ?_
  refine lawM_i (As := [.int (xs (iI (i : Int) + iI 1).toNatClampNeg)]) (rest := [.int r1]) hx hb hml hown hts (c_X8_beds_M l dC dI b2 cy N IM AM TM (xs (iI (i : Int) + iI 1).toNatClampNeg) r2 h2) (cwV 1 hts gL_law_X8_beds rfl rfl rfl (by decide +kernel) ⟨Nat.le_of_ble_eq_true rfl, Nat.le_of_ble_eq_true rfl⟩) hK hP hD hS hA rfl hl.1 rfl (Nat.le_of_ble_eq_true rfl) dL_law_475 (Nat.le_refl _) (Nat.le_refl _) (fun H locs hP hD hS => ?_)
  refine lv_icmp_eq (tgt := 724) hx hb dL_law_478 (by decide) (fun _ => ?_) (fun q => absurd h3 q)
  exact kk IC AC TC IM r2.2 TM hrel2 _ _ hP hD hS ls hl
set_option maxHeartbeats 8000000 in
set_option maxRecDepth 100000 in
theorem lw_odds {p : Program} {l : Launch} {e : Env} {s : State} {m : MethodId} {below : List Frame} {meth : Method} {c : Code} {dC : Nat → ClassId} {dI : Nat → Nat → Nat} {b L : Nat} {xs : Nat → Int32} {Rel : (Nat → Int32) → (Nat → Nat → Int32) → Int64 → (Nat → Int32) → (Nat → Nat → Int32) → Int64 → Prop} (N : Nat) (hst : St_odds N Rel) (a b2 : Nat → Nat) (cy : Nat → ClassId) (i : Nat) (hL : L ≤ 320) (hiL : i + 5 ≤ L) (hx : p.tables.exec = Jvm.exec) (hb : c.code = cL_law) (hml : c.maxLocals = 4) (hown : s.vm.findClass RL = some m.cls) (hts : ∀ w ∈ wsL_law, w.before #[Value.ref b] s = true) (hX : va_X b L xs s s.heap) (hbl : b < s.heap.size) (hK : va_K (dC, dI) vwCl (g_tys cy) s)
    (kk : ∀ (IC : Nat → Int32) (AC : Nat → Nat → Int32) (TC : Int64) (IM : Nat → Int32) (AM : Nat → Nat → Int32) (TM : Int64), Rel IC AC TC IM AM TM → ∀ (H : Heap) (locs : List Loc), va_P (dC, dI) vwCl (wC a cy IC AC TC ++ wM b2 cy IM AM TM) H → va_D (fun q : Nat => s.heap.size ≤ q) (wC a cy IC AC TC ++ wM b2 cy IM AM TM) → va_S (fun q : Nat => s.heap.size ≤ q) s.heap H locs → ∀ ls : Array Slot, lv_has ls 4 [(0, .ref b), (1, .ref (a 0)), (2, .ref (b2 0)), (3, .int (iI (i : Int)))] → W p l e room_1 s m #[Value.ref b] below meth c H locs 600000 7302250 (lw_Z below #[Value.ref b] s) (F0 m 724 ls [])) :
    ∀ (IC : Nat → Int32) (AC : Nat → Nat → Int32) (TC : Int64) (IM : Nat → Int32) (AM : Nat → Nat → Int32) (TM : Int64), Rel IC AC TC IM AM TM → ∀ (H : Heap) (locs : List Loc), va_P (dC, dI) vwCl (wC a cy IC AC TC ++ wM b2 cy IM AM TM) H → va_D (fun q : Nat => s.heap.size ≤ q) (wC a cy IC AC TC ++ wM b2 cy IM AM TM) → va_S (fun q : Nat => s.heap.size ≤ q) s.heap H locs → ∀ ls : Array Slot, lv_has ls 4 [(0, .ref b), (1, .ref (a 0)), (2, .ref (b2 0)), (3, .int (iI (i : Int)))] → W p l e room_1 s m #[Value.ref b] below meth c H locs 600000 7302250 (lw_Z below #[Value.ref b] s) (F0 m 483 ls []) := by
  intro IC AC TC IM AM TM hrel H locs hP hD hS ls hl
  have hA : ∀ q : Nat, s.heap.size ≤ q → (fun q : Nat => s.heap.size ≤ q) q := fun _ h => h
  have hbA : ¬ (fun q : Nat => s.heap.size ≤ q) b := Nat.not_le.mpr hbl
  obtain ⟨r1, r2, h1, h2, h3, hrel2⟩ := hst IC AC TC IM AM TM hrel (xs (iI (i : Int) + iI 1).toNatClampNeg) (xs (iI (i : Int) + iI 2).toNatClampNeg) (xs (iI (i : Int) + iI 3).toNatClampNeg) (xs (iI (i : Int) + iI 4).toNatClampNeg)
  refine lv_aload_n hx hb dL_law_483 rfl (lv_at hl 1 rfl) ?_
  refine lv_aload_n hx hb dL_law_484 rfl (lv_at hl 0 rfl) ?_
  refine lv_iload_n hx hb dL_law_485 rfl (lv_at hl 3 rfl) ?_
  refine lv_iconst (v := iI 1) hx hb dL_law_486 rfl ?_
  refine lv_iadd hx hb dL_law_487 ?_
  refine va_sld hx hb hX hbl hbA hS (lw_in (k := 1) hL (by omega)) dL_law_488 ?_
  refine lv_aload_n hx hb dL_law_489 rfl (lv_at hl 0 rfl) ?_
  refine lv_iload_n hx hb dL_law_490 rfl (lv_at hl 3 rfl) ?_
  refine lv_iconst (v := iI 2) hx hb dL_law_491 rfl ?_
  refine lv_iadd hx hb dL_law_492 ?_
  refine va_sld hx hb hX hbl hbA hS (lw_in (k := 2) hL (by omega)) dL_law_493 ?_
  refine lv_aload_n hx hb dL_law_494 rfl (lv_at hl 0 rfl) ?_
  refine lv_iload_n hx hb dL_law_495 rfl (lv_at hl 3 rfl) ?_
  refine lv_iconst (v := iI 3) hx hb dL_law_496 rfl ?_
  refine lv_iadd hx hb dL_law_497 ?_
  refine va_sld hx hb hX hbl hbA hS (lw_in (k := 3) hL (by omega)) dL_law_498 ?_
  refine lv_aload_n hx hb dL_law_499 rfl (lv_at hl 0 rfl) ?_
  refine lv_iload_n hx hb dL_law_500 rfl (lv_at hl 3 rfl) ?_
  refine lv_iconst (v := iI 4) hx hb dL_law_501 rfl ?_
  refine lv_iadd hx hb dL_law_502 ?_
  refine va_sld hx hb hX hbl hbA hS (lw_in (k := 4) hL (by omega)) dL_law_503 ?_
  refine lawC_i (As := [.int (xs (iI (i : Int) + iI 1).toNatClampNeg), .int (xs (iI (i : Int) + iI 2).toNatClampNeg), .int (xs (iI (i : Int) + iI 3).toNatClampNeg), .int (xs (iI (i : Int) + iI 4).toNatClampNeg)]) (rest := []) hx hb hml hown hts (c_X7_odds_C l dC dI a cy N IC AC TC (xs (iI (i : Int) + iI 1).toNatClampNeg) (xs (iI (i : Int) + iI 2).toNatClampNeg) (xs (iI (i : Int) + iI 3).toNatClampNeg) (xs (iI (i : Int) + iI 4).toNatClampNeg) r1 h1) (cwV 4 hts gL_law_X7_odds rfl rfl rfl (by decide +kernel) ⟨Nat.le_of_ble_eq_true rfl, Nat.le_of_ble_eq_true rfl⟩) hK hP hD hS hA rfl hl.1 rfl (Nat.le_of_ble_eq_true rfl) dL_law_504 (Nat.le_refl _) (Nat.le_refl _) (fun H locs hP hD hS => ?_)
  refine lv_aload_n hx hb dL_law_507 rfl (lv_at hl 2 rfl) ?_
  refine lv_aload_n hx hb dL_law_508 rfl (lv_at hl 0 rfl) ?_
  refine lv_iload_n hx hb dL_law_509 rfl (lv_at hl 3 rfl) ?_
  refine lv_iconst (v := iI 1) hx hb dL_law_510 rfl ?_
  refine lv_iadd hx hb dL_law_511 ?_
  refine va_sld hx hb hX hbl hbA hS (lw_in (k := 1) hL (by omega)) dL_law_512 ?_
  refine lv_aload_n hx hb dL_law_513 rfl (lv_at hl 0 rfl) ?_
  refine lv_iload_n hx hb dL_law_514 rfl (lv_at hl 3 rfl) ?_
  refine lv_iconst (v := iI 2) hx hb dL_law_515 rfl ?_
  refine lv_iadd hx hb dL_law_516 ?_
  refine va_sld hx hb hX hbl hbA hS (lw_in (k := 2) hL (by omega)) dL_law_517 ?_
  refine lv_aload_n hx hb dL_law_518 rfl (lv_at hl 0 rfl) ?_
  refine lv_iload_n hx hb dL_law_519 rfl (lv_at hl 3 rfl) ?_
  refine lv_iconst (v := iI 3) hx hb dL_law_520 rfl ?_
  refine lv_iadd hx hb dL_law_521 ?_
  refine va_sld hx hb hX hbl hbA hS (lw_in (k := 3) hL (by omega)) dL_law_522 ?_
  refine lv_aload_n hx hb dL_law_523 rfl (lv_at hl 0 rfl) ?_
  refine lv_iload_n hx hb dL_law_524 rfl (lv_at hl 3 rfl) ?_
  refine lv_iconst (v := iI 4) hx hb dL_law_525 rfl ?_
  refine lv_iadd hx hb dL_law_526 ?_
  refine va_sld hx hb hX hbl hbA hS (lw_in (k := 4) hL (by omega)) dL_law_527 ?_
  refine lawM_i (As := [.int (xs (iI (i : Int) + iI 1).toNatClampNeg), .int (xs (iI (i : Int) + iI 2).toNatClampNeg), .int (xs (iI (i : Int) + iI 3).toNatClampNeg), .int (xs (iI (i : Int) + iI 4).toNatClampNeg)]) (rest := [.int r1]) hx hb hml hown hts (c_X8_odds_M l dC dI b2 cy N IM AM TM (xs (iI (i : Int) + iI 1).toNatClampNeg) (xs (iI (i : Int) + iI 2).toNatClampNeg) (xs (iI (i : Int) + iI 3).toNatClampNeg) (xs (iI (i : Int) + iI 4).toNatClampNeg) r2 h2) (cwV 4 hts gL_law_X8_odds rfl rfl rfl (by decide +kernel) ⟨Nat.le_of_ble_eq_true rfl, Nat.le_of_ble_eq_true rfl⟩) hK hP hD hS hA rfl hl.1 rfl (Nat.le_of_ble_eq_true rfl) dL_law_528 (Nat.le_refl _) (Nat.le_refl _) (fun H locs hP hD hS => ?_)
  refine lv_icmp_eq (tgt := 724) hx hb dL_law_531 (by decide) (fun _ => ?_) (fun q => absurd h3 q)
  exact kk IC AC TC IM AM TM hrel2 _ _ hP hD hS ls hl
set_option maxHeartbeats 8000000 in
set_option maxRecDepth 100000 in
theorem lw_hears {p : Program} {l : Launch} {e : Env} {s : State} {m : MethodId} {below : List Frame} {meth : Method} {c : Code} {dC : Nat → ClassId} {dI : Nat → Nat → Nat} {b L : Nat} {xs : Nat → Int32} {Rel : (Nat → Int32) → (Nat → Nat → Int32) → Int64 → (Nat → Int32) → (Nat → Nat → Int32) → Int64 → Prop} (N : Nat) (hst : St_hears N Rel) (a b2 : Nat → Nat) (cy : Nat → ClassId) (i : Nat) (hL : L ≤ 320) (hiL : i + 5 ≤ L) (hx : p.tables.exec = Jvm.exec) (hb : c.code = cL_law) (hml : c.maxLocals = 4) (hown : s.vm.findClass RL = some m.cls) (hts : ∀ w ∈ wsL_law, w.before #[Value.ref b] s = true) (hX : va_X b L xs s s.heap) (hbl : b < s.heap.size) (hK : va_K (dC, dI) vwCl (g_tys cy) s)
    (kk : ∀ (IC : Nat → Int32) (AC : Nat → Nat → Int32) (TC : Int64) (IM : Nat → Int32) (AM : Nat → Nat → Int32) (TM : Int64), Rel IC AC TC IM AM TM → ∀ (H : Heap) (locs : List Loc), va_P (dC, dI) vwCl (wC a cy IC AC TC ++ wM b2 cy IM AM TM) H → va_D (fun q : Nat => s.heap.size ≤ q) (wC a cy IC AC TC ++ wM b2 cy IM AM TM) → va_S (fun q : Nat => s.heap.size ≤ q) s.heap H locs → ∀ ls : Array Slot, lv_has ls 4 [(0, .ref b), (1, .ref (a 0)), (2, .ref (b2 0)), (3, .int (iI (i : Int)))] → W p l e room_1 s m #[Value.ref b] below meth c H locs 600000 7302250 (lw_Z below #[Value.ref b] s) (F0 m 724 ls [])) :
    ∀ (IC : Nat → Int32) (AC : Nat → Nat → Int32) (TC : Int64) (IM : Nat → Int32) (AM : Nat → Nat → Int32) (TM : Int64), Rel IC AC TC IM AM TM → ∀ (H : Heap) (locs : List Loc), va_P (dC, dI) vwCl (wC a cy IC AC TC ++ wM b2 cy IM AM TM) H → va_D (fun q : Nat => s.heap.size ≤ q) (wC a cy IC AC TC ++ wM b2 cy IM AM TM) → va_S (fun q : Nat => s.heap.size ≤ q) s.heap H locs → ∀ ls : Array Slot, lv_has ls 4 [(0, .ref b), (1, .ref (a 0)), (2, .ref (b2 0)), (3, .int (iI (i : Int)))] → W p l e room_1 s m #[Value.ref b] below meth c H locs 600000 7302250 (lw_Z below #[Value.ref b] s) (F0 m 536 ls []) := by
  intro IC AC TC IM AM TM hrel H locs hP hD hS ls hl
  have hA : ∀ q : Nat, s.heap.size ≤ q → (fun q : Nat => s.heap.size ≤ q) q := fun _ h => h
  have hbA : ¬ (fun q : Nat => s.heap.size ≤ q) b := Nat.not_le.mpr hbl
  obtain ⟨r1, r2, h1, h2, h3, hrel2⟩ := hst IC AC TC IM AM TM hrel (xs (iI (i : Int) + iI 1).toNatClampNeg) (xs (iI (i : Int) + iI 2).toNatClampNeg)
  refine lv_aload_n hx hb dL_law_536 rfl (lv_at hl 1 rfl) ?_
  refine lv_aload_n hx hb dL_law_537 rfl (lv_at hl 0 rfl) ?_
  refine lv_iload_n hx hb dL_law_538 rfl (lv_at hl 3 rfl) ?_
  refine lv_iconst (v := iI 1) hx hb dL_law_539 rfl ?_
  refine lv_iadd hx hb dL_law_540 ?_
  refine va_sld hx hb hX hbl hbA hS (lw_in (k := 1) hL (by omega)) dL_law_541 ?_
  refine lv_aload_n hx hb dL_law_542 rfl (lv_at hl 0 rfl) ?_
  refine lv_iload_n hx hb dL_law_543 rfl (lv_at hl 3 rfl) ?_
  refine lv_iconst (v := iI 2) hx hb dL_law_544 rfl ?_
  refine lv_iadd hx hb dL_law_545 ?_
  refine va_sld hx hb hX hbl hbA hS (lw_in (k := 2) hL (by omega)) dL_law_546 ?_
  refine lawC_i (As := [.int (xs (iI (i : Int) + iI 1).toNatClampNeg), .int (xs (iI (i : Int) + iI 2).toNatClampNeg)]) (rest := []) hx hb hml hown hts (c_X7_hears_C l dC dI a cy N IC AC TC (xs (iI (i : Int) + iI 1).toNatClampNeg) (xs (iI (i : Int) + iI 2).toNatClampNeg) r1 h1) (cwV 2 hts gL_law_X7_hears rfl rfl rfl (by decide +kernel) ⟨Nat.le_of_ble_eq_true rfl, Nat.le_of_ble_eq_true rfl⟩) hK hP hD hS hA rfl hl.1 rfl (Nat.le_of_ble_eq_true rfl) dL_law_547 (Nat.le_refl _) (Nat.le_refl _) (fun H locs hP hD hS => ?_)
  refine lv_aload_n hx hb dL_law_550 rfl (lv_at hl 2 rfl) ?_
  refine lv_aload_n hx hb dL_law_551 rfl (lv_at hl 0 rfl) ?_
  refine lv_iload_n hx hb dL_law_552 rfl (lv_at hl 3 rfl) ?_
  refine lv_iconst (v := iI 1) hx hb dL_law_553 rfl ?_
  refine lv_iadd hx hb dL_law_554 ?_
  refine va_sld hx hb hX hbl hbA hS (lw_in (k := 1) hL (by omega)) dL_law_555 ?_
  refine lv_aload_n hx hb dL_law_556 rfl (lv_at hl 0 rfl) ?_
  refine lv_iload_n hx hb dL_law_557 rfl (lv_at hl 3 rfl) ?_
  refine lv_iconst (v := iI 2) hx hb dL_law_558 rfl ?_
  refine lv_iadd hx hb dL_law_559 ?_
  refine va_sld hx hb hX hbl hbA hS (lw_in (k := 2) hL (by omega)) dL_law_560 ?_
  refine lawM_i (As := [.int (xs (iI (i : Int) + iI 1).toNatClampNeg), .int (xs (iI (i : Int) + iI 2).toNatClampNeg)]) (rest := [.int r1.1]) hx hb hml hown hts (c_X8_hears_M l dC dI b2 cy N IM AM TM (xs (iI (i : Int) + iI 1).toNatClampNeg) (xs (iI (i : Int) + iI 2).toNatClampNeg) r2 h2) (cwV 2 hts gL_law_X8_hears rfl rfl rfl (by decide +kernel) ⟨Nat.le_of_ble_eq_true rfl, Nat.le_of_ble_eq_true rfl⟩) hK hP hD hS hA rfl hl.1 rfl (Nat.le_of_ble_eq_true rfl) dL_law_561 (Nat.le_refl _) (Nat.le_refl _) (fun H locs hP hD hS => ?_)
  refine lv_icmp_eq (tgt := 724) hx hb dL_law_564 (by decide) (fun _ => ?_) (fun q => absurd h3 q)
  exact kk r1.2.1 r1.2.2 TC r2.2.1 r2.2.2 TM hrel2 _ _ hP hD hS ls hl
set_option maxHeartbeats 8000000 in
set_option maxRecDepth 100000 in
theorem lw_forget {p : Program} {l : Launch} {e : Env} {s : State} {m : MethodId} {below : List Frame} {meth : Method} {c : Code} {dC : Nat → ClassId} {dI : Nat → Nat → Nat} {b L : Nat} {xs : Nat → Int32} {Rel : (Nat → Int32) → (Nat → Nat → Int32) → Int64 → (Nat → Int32) → (Nat → Nat → Int32) → Int64 → Prop} (N : Nat) (hst : St_forget N Rel) (a b2 : Nat → Nat) (cy : Nat → ClassId) (i : Nat) (hL : L ≤ 320) (hiL : i + 5 ≤ L) (hx : p.tables.exec = Jvm.exec) (hb : c.code = cL_law) (hml : c.maxLocals = 4) (hown : s.vm.findClass RL = some m.cls) (hts : ∀ w ∈ wsL_law, w.before #[Value.ref b] s = true) (hX : va_X b L xs s s.heap) (hbl : b < s.heap.size) (hK : va_K (dC, dI) vwCl (g_tys cy) s)
    (kk : ∀ (IC : Nat → Int32) (AC : Nat → Nat → Int32) (TC : Int64) (IM : Nat → Int32) (AM : Nat → Nat → Int32) (TM : Int64), Rel IC AC TC IM AM TM → ∀ (H : Heap) (locs : List Loc), va_P (dC, dI) vwCl (wC a cy IC AC TC ++ wM b2 cy IM AM TM) H → va_D (fun q : Nat => s.heap.size ≤ q) (wC a cy IC AC TC ++ wM b2 cy IM AM TM) → va_S (fun q : Nat => s.heap.size ≤ q) s.heap H locs → ∀ ls : Array Slot, lv_has ls 4 [(0, .ref b), (1, .ref (a 0)), (2, .ref (b2 0)), (3, .int (iI (i : Int)))] → W p l e room_1 s m #[Value.ref b] below meth c H locs 600000 7302250 (lw_Z below #[Value.ref b] s) (F0 m 724 ls [])) :
    ∀ (IC : Nat → Int32) (AC : Nat → Nat → Int32) (TC : Int64) (IM : Nat → Int32) (AM : Nat → Nat → Int32) (TM : Int64), Rel IC AC TC IM AM TM → ∀ (H : Heap) (locs : List Loc), va_P (dC, dI) vwCl (wC a cy IC AC TC ++ wM b2 cy IM AM TM) H → va_D (fun q : Nat => s.heap.size ≤ q) (wC a cy IC AC TC ++ wM b2 cy IM AM TM) → va_S (fun q : Nat => s.heap.size ≤ q) s.heap H locs → ∀ ls : Array Slot, lv_has ls 4 [(0, .ref b), (1, .ref (a 0)), (2, .ref (b2 0)), (3, .int (iI (i : Int)))] → W p l e room_1 s m #[Value.ref b] below meth c H locs 600000 7302250 (lw_Z below #[Value.ref b] s) (F0 m 569 ls []) := by
  intro IC AC TC IM AM TM hrel H locs hP hD hS ls hl
  have hA : ∀ q : Nat, s.heap.size ≤ q → (fun q : Nat => s.heap.size ≤ q) q := fun _ h => h
  have hbA : ¬ (fun q : Nat => s.heap.size ≤ q) b := Nat.not_le.mpr hbl
  obtain ⟨r1, r2, h1, h2, h3, hrel2⟩ := hst IC AC TC IM AM TM hrel
  refine lv_aload_n hx hb dL_law_569 rfl (lv_at hl 1 rfl) ?_
  refine lawC_i (As := []) (rest := []) hx hb hml hown hts (c_X7_forget_C l dC dI a cy N IC AC TC r1 h1) (cwV 0 hts gL_law_X7_forget rfl rfl rfl (by decide +kernel) ⟨Nat.le_of_ble_eq_true rfl, Nat.le_of_ble_eq_true rfl⟩) hK hP hD hS hA rfl hl.1 rfl (Nat.le_of_ble_eq_true rfl) dL_law_570 (Nat.le_refl _) (Nat.le_refl _) (fun H locs hP hD hS => ?_)
  refine lv_aload_n hx hb dL_law_573 rfl (lv_at hl 2 rfl) ?_
  refine lawM_i (As := []) (rest := [.int r1.1]) hx hb hml hown hts (c_X8_forget_M l dC dI b2 cy N IM AM TM r2 h2) (cwV 0 hts gL_law_X8_forget rfl rfl rfl (by decide +kernel) ⟨Nat.le_of_ble_eq_true rfl, Nat.le_of_ble_eq_true rfl⟩) hK hP hD hS hA rfl hl.1 rfl (Nat.le_of_ble_eq_true rfl) dL_law_574 (Nat.le_refl _) (Nat.le_refl _) (fun H locs hP hD hS => ?_)
  refine lv_icmp_eq (tgt := 724) hx hb dL_law_577 (by decide) (fun _ => ?_) (fun q => absurd h3 q)
  exact kk r1.2 AC TC r2.2 AM TM hrel2 _ _ hP hD hS ls hl
set_option maxHeartbeats 8000000 in
set_option maxRecDepth 100000 in
theorem lw_who {p : Program} {l : Launch} {e : Env} {s : State} {m : MethodId} {below : List Frame} {meth : Method} {c : Code} {dC : Nat → ClassId} {dI : Nat → Nat → Nat} {b L : Nat} {xs : Nat → Int32} {Rel : (Nat → Int32) → (Nat → Nat → Int32) → Int64 → (Nat → Int32) → (Nat → Nat → Int32) → Int64 → Prop} (N : Nat) (hst : St_who N Rel) (a b2 : Nat → Nat) (cy : Nat → ClassId) (i : Nat) (hL : L ≤ 320) (hiL : i + 5 ≤ L) (hx : p.tables.exec = Jvm.exec) (hb : c.code = cL_law) (hml : c.maxLocals = 4) (hown : s.vm.findClass RL = some m.cls) (hts : ∀ w ∈ wsL_law, w.before #[Value.ref b] s = true) (hX : va_X b L xs s s.heap) (hbl : b < s.heap.size) (hK : va_K (dC, dI) vwCl (g_tys cy) s)
    (kk : ∀ (IC : Nat → Int32) (AC : Nat → Nat → Int32) (TC : Int64) (IM : Nat → Int32) (AM : Nat → Nat → Int32) (TM : Int64), Rel IC AC TC IM AM TM → ∀ (H : Heap) (locs : List Loc), va_P (dC, dI) vwCl (wC a cy IC AC TC ++ wM b2 cy IM AM TM) H → va_D (fun q : Nat => s.heap.size ≤ q) (wC a cy IC AC TC ++ wM b2 cy IM AM TM) → va_S (fun q : Nat => s.heap.size ≤ q) s.heap H locs → ∀ ls : Array Slot, lv_has ls 4 [(0, .ref b), (1, .ref (a 0)), (2, .ref (b2 0)), (3, .int (iI (i : Int)))] → W p l e room_1 s m #[Value.ref b] below meth c H locs 600000 7302250 (lw_Z below #[Value.ref b] s) (F0 m 724 ls [])) :
    ∀ (IC : Nat → Int32) (AC : Nat → Nat → Int32) (TC : Int64) (IM : Nat → Int32) (AM : Nat → Nat → Int32) (TM : Int64), Rel IC AC TC IM AM TM → ∀ (H : Heap) (locs : List Loc), va_P (dC, dI) vwCl (wC a cy IC AC TC ++ wM b2 cy IM AM TM) H → va_D (fun q : Nat => s.heap.size ≤ q) (wC a cy IC AC TC ++ wM b2 cy IM AM TM) → va_S (fun q : Nat => s.heap.size ≤ q) s.heap H locs → ∀ ls : Array Slot, lv_has ls 4 [(0, .ref b), (1, .ref (a 0)), (2, .ref (b2 0)), (3, .int (iI (i : Int)))] → W p l e room_1 s m #[Value.ref b] below meth c H locs 600000 7302250 (lw_Z below #[Value.ref b] s) (F0 m 582 ls []) := by
  intro IC AC TC IM AM TM hrel H locs hP hD hS ls hl
  have hA : ∀ q : Nat, s.heap.size ≤ q → (fun q : Nat => s.heap.size ≤ q) q := fun _ h => h
  have hbA : ¬ (fun q : Nat => s.heap.size ≤ q) b := Nat.not_le.mpr hbl
  obtain ⟨r1, r2, h1, h2, h3, hrel2⟩ := hst IC AC TC IM AM TM hrel
  refine lv_aload_n hx hb dL_law_582 rfl (lv_at hl 1 rfl) ?_
  refine lawC_i (As := []) (rest := []) hx hb hml hown hts (c_X7_who_C l dC dI a cy N IC AC TC r1 h1) (cwV 0 hts gL_law_X7_who rfl rfl rfl (by decide +kernel) ⟨Nat.le_of_ble_eq_true rfl, Nat.le_of_ble_eq_true rfl⟩) hK hP hD hS hA rfl hl.1 rfl (Nat.le_of_ble_eq_true rfl) dL_law_583 (Nat.le_refl _) (Nat.le_refl _) (fun H locs hP hD hS => ?_)
  refine lv_aload_n hx hb dL_law_586 rfl (lv_at hl 2 rfl) ?_
  refine lawM_i (As := []) (rest := [.int r1]) hx hb hml hown hts (c_X8_who_M l dC dI b2 cy N IM AM TM r2 h2) (cwV 0 hts gL_law_X8_who rfl rfl rfl (by decide +kernel) ⟨Nat.le_of_ble_eq_true rfl, Nat.le_of_ble_eq_true rfl⟩) hK hP hD hS hA rfl hl.1 rfl (Nat.le_of_ble_eq_true rfl) dL_law_587 (Nat.le_refl _) (Nat.le_refl _) (fun H locs hP hD hS => ?_)
  refine lv_icmp_eq (tgt := 724) hx hb dL_law_590 (by decide) (fun _ => ?_) (fun q => absurd h3 q)
  exact kk IC AC TC IM AM TM hrel2 _ _ hP hD hS ls hl
set_option maxHeartbeats 8000000 in
set_option maxRecDepth 100000 in
theorem lw_listen {p : Program} {l : Launch} {e : Env} {s : State} {m : MethodId} {below : List Frame} {meth : Method} {c : Code} {dC : Nat → ClassId} {dI : Nat → Nat → Nat} {b L : Nat} {xs : Nat → Int32} {Rel : (Nat → Int32) → (Nat → Nat → Int32) → Int64 → (Nat → Int32) → (Nat → Nat → Int32) → Int64 → Prop} (N : Nat) (hst : St_listen N Rel) (a b2 : Nat → Nat) (cy : Nat → ClassId) (i : Nat) (hL : L ≤ 320) (hiL : i + 5 ≤ L) (hx : p.tables.exec = Jvm.exec) (hb : c.code = cL_law) (hml : c.maxLocals = 4) (hown : s.vm.findClass RL = some m.cls) (hts : ∀ w ∈ wsL_law, w.before #[Value.ref b] s = true) (hX : va_X b L xs s s.heap) (hbl : b < s.heap.size) (hK : va_K (dC, dI) vwCl (g_tys cy) s)
    (kk : ∀ (IC : Nat → Int32) (AC : Nat → Nat → Int32) (TC : Int64) (IM : Nat → Int32) (AM : Nat → Nat → Int32) (TM : Int64), Rel IC AC TC IM AM TM → ∀ (H : Heap) (locs : List Loc), va_P (dC, dI) vwCl (wC a cy IC AC TC ++ wM b2 cy IM AM TM) H → va_D (fun q : Nat => s.heap.size ≤ q) (wC a cy IC AC TC ++ wM b2 cy IM AM TM) → va_S (fun q : Nat => s.heap.size ≤ q) s.heap H locs → ∀ ls : Array Slot, lv_has ls 4 [(0, .ref b), (1, .ref (a 0)), (2, .ref (b2 0)), (3, .int (iI (i : Int)))] → W p l e room_1 s m #[Value.ref b] below meth c H locs 600000 7302250 (lw_Z below #[Value.ref b] s) (F0 m 724 ls [])) :
    ∀ (IC : Nat → Int32) (AC : Nat → Nat → Int32) (TC : Int64) (IM : Nat → Int32) (AM : Nat → Nat → Int32) (TM : Int64), Rel IC AC TC IM AM TM → ∀ (H : Heap) (locs : List Loc), va_P (dC, dI) vwCl (wC a cy IC AC TC ++ wM b2 cy IM AM TM) H → va_D (fun q : Nat => s.heap.size ≤ q) (wC a cy IC AC TC ++ wM b2 cy IM AM TM) → va_S (fun q : Nat => s.heap.size ≤ q) s.heap H locs → ∀ ls : Array Slot, lv_has ls 4 [(0, .ref b), (1, .ref (a 0)), (2, .ref (b2 0)), (3, .int (iI (i : Int)))] → W p l e room_1 s m #[Value.ref b] below meth c H locs 600000 7302250 (lw_Z below #[Value.ref b] s) (F0 m 595 ls []) := by
  intro IC AC TC IM AM TM hrel H locs hP hD hS ls hl
  have hA : ∀ q : Nat, s.heap.size ≤ q → (fun q : Nat => s.heap.size ≤ q) q := fun _ h => h
  have hbA : ¬ (fun q : Nat => s.heap.size ≤ q) b := Nat.not_le.mpr hbl
  obtain ⟨r1, r2, h1, h2, h3, hrel2⟩ := hst IC AC TC IM AM TM hrel
  refine lv_aload_n hx hb dL_law_595 rfl (lv_at hl 1 rfl) ?_
  refine lawC_i (As := []) (rest := []) hx hb hml hown hts (c_X7_listen_C l dC dI a cy N IC AC TC r1 h1) (cwV 0 hts gL_law_X7_listen rfl rfl rfl (by decide +kernel) ⟨Nat.le_of_ble_eq_true rfl, Nat.le_of_ble_eq_true rfl⟩) hK hP hD hS hA rfl hl.1 rfl (Nat.le_of_ble_eq_true rfl) dL_law_596 (Nat.le_refl _) (Nat.le_refl _) (fun H locs hP hD hS => ?_)
  refine lv_aload_n hx hb dL_law_599 rfl (lv_at hl 2 rfl) ?_
  refine lawM_i (As := []) (rest := [.int r1]) hx hb hml hown hts (c_X8_listen_M l dC dI b2 cy N IM AM TM r2 h2) (cwV 0 hts gL_law_X8_listen rfl rfl rfl (by decide +kernel) ⟨Nat.le_of_ble_eq_true rfl, Nat.le_of_ble_eq_true rfl⟩) hK hP hD hS hA rfl hl.1 rfl (Nat.le_of_ble_eq_true rfl) dL_law_600 (Nat.le_refl _) (Nat.le_refl _) (fun H locs hP hD hS => ?_)
  refine lv_icmp_eq (tgt := 724) hx hb dL_law_603 (by decide) (fun _ => ?_) (fun q => absurd h3 q)
  exact kk IC AC TC IM AM TM hrel2 _ _ hP hD hS ls hl
set_option maxHeartbeats 8000000 in
set_option maxRecDepth 100000 in
theorem lw_rate {p : Program} {l : Launch} {e : Env} {s : State} {m : MethodId} {below : List Frame} {meth : Method} {c : Code} {dC : Nat → ClassId} {dI : Nat → Nat → Nat} {b L : Nat} {xs : Nat → Int32} {Rel : (Nat → Int32) → (Nat → Nat → Int32) → Int64 → (Nat → Int32) → (Nat → Nat → Int32) → Int64 → Prop} (N : Nat) (hst : St_rate N Rel) (a b2 : Nat → Nat) (cy : Nat → ClassId) (i : Nat) (hL : L ≤ 320) (hiL : i + 5 ≤ L) (hx : p.tables.exec = Jvm.exec) (hb : c.code = cL_law) (hml : c.maxLocals = 4) (hown : s.vm.findClass RL = some m.cls) (hts : ∀ w ∈ wsL_law, w.before #[Value.ref b] s = true) (hX : va_X b L xs s s.heap) (hbl : b < s.heap.size) (hK : va_K (dC, dI) vwCl (g_tys cy) s)
    (kk : ∀ (IC : Nat → Int32) (AC : Nat → Nat → Int32) (TC : Int64) (IM : Nat → Int32) (AM : Nat → Nat → Int32) (TM : Int64), Rel IC AC TC IM AM TM → ∀ (H : Heap) (locs : List Loc), va_P (dC, dI) vwCl (wC a cy IC AC TC ++ wM b2 cy IM AM TM) H → va_D (fun q : Nat => s.heap.size ≤ q) (wC a cy IC AC TC ++ wM b2 cy IM AM TM) → va_S (fun q : Nat => s.heap.size ≤ q) s.heap H locs → ∀ ls : Array Slot, lv_has ls 4 [(0, .ref b), (1, .ref (a 0)), (2, .ref (b2 0)), (3, .int (iI (i : Int)))] → W p l e room_1 s m #[Value.ref b] below meth c H locs 600000 7302250 (lw_Z below #[Value.ref b] s) (F0 m 724 ls [])) :
    ∀ (IC : Nat → Int32) (AC : Nat → Nat → Int32) (TC : Int64) (IM : Nat → Int32) (AM : Nat → Nat → Int32) (TM : Int64), Rel IC AC TC IM AM TM → ∀ (H : Heap) (locs : List Loc), va_P (dC, dI) vwCl (wC a cy IC AC TC ++ wM b2 cy IM AM TM) H → va_D (fun q : Nat => s.heap.size ≤ q) (wC a cy IC AC TC ++ wM b2 cy IM AM TM) → va_S (fun q : Nat => s.heap.size ≤ q) s.heap H locs → ∀ ls : Array Slot, lv_has ls 4 [(0, .ref b), (1, .ref (a 0)), (2, .ref (b2 0)), (3, .int (iI (i : Int)))] → W p l e room_1 s m #[Value.ref b] below meth c H locs 600000 7302250 (lw_Z below #[Value.ref b] s) (F0 m 608 ls []) := by
  intro IC AC TC IM AM TM hrel H locs hP hD hS ls hl
  have hA : ∀ q : Nat, s.heap.size ≤ q → (fun q : Nat => s.heap.size ≤ q) q := fun _ h => h
  have hbA : ¬ (fun q : Nat => s.heap.size ≤ q) b := Nat.not_le.mpr hbl
  obtain ⟨r1, r2, h1, h2, h3, hrel2⟩ := hst IC AC TC IM AM TM hrel (xs (iI (i : Int) + iI 1).toNatClampNeg) (xs (iI (i : Int) + iI 2).toNatClampNeg)
  refine lv_aload_n hx hb dL_law_608 rfl (lv_at hl 1 rfl) ?_
  refine lv_aload_n hx hb dL_law_609 rfl (lv_at hl 0 rfl) ?_
  refine lv_iload_n hx hb dL_law_610 rfl (lv_at hl 3 rfl) ?_
  refine lv_iconst (v := iI 1) hx hb dL_law_611 rfl ?_
  refine lv_iadd hx hb dL_law_612 ?_
  refine va_sld hx hb hX hbl hbA hS (lw_in (k := 1) hL (by omega)) dL_law_613 ?_
  refine lv_aload_n hx hb dL_law_614 rfl (lv_at hl 0 rfl) ?_
  refine lv_iload_n hx hb dL_law_615 rfl (lv_at hl 3 rfl) ?_
  refine lv_iconst (v := iI 2) hx hb dL_law_616 rfl ?_
  refine lv_iadd hx hb dL_law_617 ?_
  refine va_sld hx hb hX hbl hbA hS (lw_in (k := 2) hL (by omega)) dL_law_618 ?_
  refine lawC_i (As := [.int (xs (iI (i : Int) + iI 1).toNatClampNeg), .int (xs (iI (i : Int) + iI 2).toNatClampNeg)]) (rest := []) hx hb hml hown hts (c_X7_rate_C l dC dI a cy N IC AC TC (xs (iI (i : Int) + iI 1).toNatClampNeg) (xs (iI (i : Int) + iI 2).toNatClampNeg) r1 h1) (cwV 2 hts gL_law_X7_rate rfl rfl rfl (by decide +kernel) ⟨Nat.le_of_ble_eq_true rfl, Nat.le_of_ble_eq_true rfl⟩) hK hP hD hS hA rfl hl.1 rfl (Nat.le_of_ble_eq_true rfl) dL_law_619 (Nat.le_refl _) (Nat.le_refl _) (fun H locs hP hD hS => ?_)
  refine lv_aload_n hx hb dL_law_622 rfl (lv_at hl 2 rfl) ?_
  refine lv_aload_n hx hb dL_law_623 rfl (lv_at hl 0 rfl) ?_
  refine lv_iload_n hx hb dL_law_624 rfl (lv_at hl 3 rfl) ?_
  refine lv_iconst (v := iI 1) hx hb dL_law_625 rfl ?_
  refine lv_iadd hx hb dL_law_626 ?_
  refine va_sld hx hb hX hbl hbA hS (lw_in (k := 1) hL (by omega)) dL_law_627 ?_
  refine lv_aload_n hx hb dL_law_628 rfl (lv_at hl 0 rfl) ?_
  refine lv_iload_n hx hb dL_law_629 rfl (lv_at hl 3 rfl) ?_
  refine lv_iconst (v := iI 2) hx hb dL_law_630 rfl ?_
  refine lv_iadd hx hb dL_law_631 ?_
  refine va_sld hx hb hX hbl hbA hS (lw_in (k := 2) hL (by omega)) dL_law_632 ?_
  refine lawM_i (As := [.int (xs (iI (i : Int) + iI 1).toNatClampNeg), .int (xs (iI (i : Int) + iI 2).toNatClampNeg)]) (rest := [.int r1.1]) hx hb hml hown hts (c_X8_rate_M l dC dI b2 cy N IM AM TM (xs (iI (i : Int) + iI 1).toNatClampNeg) (xs (iI (i : Int) + iI 2).toNatClampNeg) r2 h2) (cwV 2 hts gL_law_X8_rate rfl rfl rfl (by decide +kernel) ⟨Nat.le_of_ble_eq_true rfl, Nat.le_of_ble_eq_true rfl⟩) hK hP hD hS hA rfl hl.1 rfl (Nat.le_of_ble_eq_true rfl) dL_law_633 (Nat.le_refl _) (Nat.le_refl _) (fun H locs hP hD hS => ?_)
  refine lv_icmp_eq (tgt := 724) hx hb dL_law_636 (by decide) (fun _ => ?_) (fun q => absurd h3 q)
  exact kk IC AC r1.2 IM AM r2.2 hrel2 _ _ hP hD hS ls hl
set_option maxHeartbeats 8000000 in
set_option maxRecDepth 100000 in
theorem lw_keep {p : Program} {l : Launch} {e : Env} {s : State} {m : MethodId} {below : List Frame} {meth : Method} {c : Code} {dC : Nat → ClassId} {dI : Nat → Nat → Nat} {b L : Nat} {xs : Nat → Int32} {Rel : (Nat → Int32) → (Nat → Nat → Int32) → Int64 → (Nat → Int32) → (Nat → Nat → Int32) → Int64 → Prop} (N : Nat) (hst : St_keep N Rel) (a b2 : Nat → Nat) (cy : Nat → ClassId) (i : Nat) (hL : L ≤ 320) (hiL : i + 5 ≤ L) (hx : p.tables.exec = Jvm.exec) (hb : c.code = cL_law) (hml : c.maxLocals = 4) (hown : s.vm.findClass RL = some m.cls) (hts : ∀ w ∈ wsL_law, w.before #[Value.ref b] s = true) (hX : va_X b L xs s s.heap) (hbl : b < s.heap.size) (hK : va_K (dC, dI) vwCl (g_tys cy) s)
    (kk : ∀ (IC : Nat → Int32) (AC : Nat → Nat → Int32) (TC : Int64) (IM : Nat → Int32) (AM : Nat → Nat → Int32) (TM : Int64), Rel IC AC TC IM AM TM → ∀ (H : Heap) (locs : List Loc), va_P (dC, dI) vwCl (wC a cy IC AC TC ++ wM b2 cy IM AM TM) H → va_D (fun q : Nat => s.heap.size ≤ q) (wC a cy IC AC TC ++ wM b2 cy IM AM TM) → va_S (fun q : Nat => s.heap.size ≤ q) s.heap H locs → ∀ ls : Array Slot, lv_has ls 4 [(0, .ref b), (1, .ref (a 0)), (2, .ref (b2 0)), (3, .int (iI (i : Int)))] → W p l e room_1 s m #[Value.ref b] below meth c H locs 600000 7302250 (lw_Z below #[Value.ref b] s) (F0 m 724 ls [])) :
    ∀ (IC : Nat → Int32) (AC : Nat → Nat → Int32) (TC : Int64) (IM : Nat → Int32) (AM : Nat → Nat → Int32) (TM : Int64), Rel IC AC TC IM AM TM → ∀ (H : Heap) (locs : List Loc), va_P (dC, dI) vwCl (wC a cy IC AC TC ++ wM b2 cy IM AM TM) H → va_D (fun q : Nat => s.heap.size ≤ q) (wC a cy IC AC TC ++ wM b2 cy IM AM TM) → va_S (fun q : Nat => s.heap.size ≤ q) s.heap H locs → ∀ ls : Array Slot, lv_has ls 4 [(0, .ref b), (1, .ref (a 0)), (2, .ref (b2 0)), (3, .int (iI (i : Int)))] → W p l e room_1 s m #[Value.ref b] below meth c H locs 600000 7302250 (lw_Z below #[Value.ref b] s) (F0 m 641 ls []) := by
  intro IC AC TC IM AM TM hrel H locs hP hD hS ls hl
  have hA : ∀ q : Nat, s.heap.size ≤ q → (fun q : Nat => s.heap.size ≤ q) q := fun _ h => h
  have hbA : ¬ (fun q : Nat => s.heap.size ≤ q) b := Nat.not_le.mpr hbl
  obtain ⟨r1, r2, h1, h2, h3, hrel2⟩ := hst IC AC TC IM AM TM hrel (xs (iI (i : Int) + iI 1).toNatClampNeg)
  refine lv_aload_n hx hb dL_law_641 rfl (lv_at hl 1 rfl) ?_
  refine lv_aload_n hx hb dL_law_642 rfl (lv_at hl 0 rfl) ?_
  refine lv_iload_n hx hb dL_law_643 rfl (lv_at hl 3 rfl) ?_
  refine lv_iconst (v := iI 1) hx hb dL_law_644 rfl ?_
  refine lv_iadd hx hb dL_law_645 ?_
  refine va_sld hx hb hX hbl hbA hS (lw_in (k := 1) hL (by omega)) dL_law_646 ?_
  refine lawC_i (As := [.int (xs (iI (i : Int) + iI 1).toNatClampNeg)]) (rest := []) hx hb hml hown hts (c_X7_keep_C l dC dI a cy N IC AC TC (xs (iI (i : Int) + iI 1).toNatClampNeg) r1 h1) (cwV 1 hts gL_law_X7_keep rfl rfl rfl (by decide +kernel) ⟨Nat.le_of_ble_eq_true rfl, Nat.le_of_ble_eq_true rfl⟩) hK hP hD hS hA rfl hl.1 rfl (Nat.le_of_ble_eq_true rfl) dL_law_647 (Nat.le_refl _) (Nat.le_refl _) (fun H locs hP hD hS => ?_)
  refine lv_aload_n hx hb dL_law_650 rfl (lv_at hl 2 rfl) ?_
  refine lv_aload_n hx hb dL_law_651 rfl (lv_at hl 0 rfl) ?_
  refine lv_iload_n hx hb dL_law_652 rfl (lv_at hl 3 rfl) ?_
  refine lv_iconst (v := iI 1) hx hb dL_law_653 rfl ?_
  refine lv_iadd hx hb dL_law_654 ?_
  refine va_sld hx hb hX hbl hbA hS (lw_in (k := 1) hL (by omega)) dL_law_655 ?_
  refine lawM_i (As := [.int (xs (iI (i : Int) + iI 1).toNatClampNeg)]) (rest := [.int r1.1]) hx hb hml hown hts (c_X8_keep_M l dC dI b2 cy N IM AM TM (xs (iI (i : Int) + iI 1).toNatClampNeg) r2 h2) (cwV 1 hts gL_law_X8_keep rfl rfl rfl (by decide +kernel) ⟨Nat.le_of_ble_eq_true rfl, Nat.le_of_ble_eq_true rfl⟩) hK hP hD hS hA rfl hl.1 rfl (Nat.le_of_ble_eq_true rfl) dL_law_656 (Nat.le_refl _) (Nat.le_refl _) (fun H locs hP hD hS => ?_)
  refine lv_icmp_eq (tgt := 724) hx hb dL_law_659 (by decide) (fun _ => ?_) (fun q => absurd h3 q)
  exact kk IC r1.2 TC IM r2.2 TM hrel2 _ _ hP hD hS ls hl
set_option maxHeartbeats 8000000 in
set_option maxRecDepth 100000 in
theorem lw_back {p : Program} {l : Launch} {e : Env} {s : State} {m : MethodId} {below : List Frame} {meth : Method} {c : Code} {dC : Nat → ClassId} {dI : Nat → Nat → Nat} {b L : Nat} {xs : Nat → Int32} {Rel : (Nat → Int32) → (Nat → Nat → Int32) → Int64 → (Nat → Int32) → (Nat → Nat → Int32) → Int64 → Prop} (N : Nat) (hst : St_back N Rel) (a b2 : Nat → Nat) (cy : Nat → ClassId) (i : Nat) (hL : L ≤ 320) (hiL : i + 5 ≤ L) (hx : p.tables.exec = Jvm.exec) (hb : c.code = cL_law) (hml : c.maxLocals = 4) (hown : s.vm.findClass RL = some m.cls) (hts : ∀ w ∈ wsL_law, w.before #[Value.ref b] s = true) (hX : va_X b L xs s s.heap) (hbl : b < s.heap.size) (hK : va_K (dC, dI) vwCl (g_tys cy) s)
    (kk : ∀ (IC : Nat → Int32) (AC : Nat → Nat → Int32) (TC : Int64) (IM : Nat → Int32) (AM : Nat → Nat → Int32) (TM : Int64), Rel IC AC TC IM AM TM → ∀ (H : Heap) (locs : List Loc), va_P (dC, dI) vwCl (wC a cy IC AC TC ++ wM b2 cy IM AM TM) H → va_D (fun q : Nat => s.heap.size ≤ q) (wC a cy IC AC TC ++ wM b2 cy IM AM TM) → va_S (fun q : Nat => s.heap.size ≤ q) s.heap H locs → ∀ ls : Array Slot, lv_has ls 4 [(0, .ref b), (1, .ref (a 0)), (2, .ref (b2 0)), (3, .int (iI (i : Int)))] → W p l e room_1 s m #[Value.ref b] below meth c H locs 600000 7302250 (lw_Z below #[Value.ref b] s) (F0 m 724 ls [])) :
    ∀ (IC : Nat → Int32) (AC : Nat → Nat → Int32) (TC : Int64) (IM : Nat → Int32) (AM : Nat → Nat → Int32) (TM : Int64), Rel IC AC TC IM AM TM → ∀ (H : Heap) (locs : List Loc), va_P (dC, dI) vwCl (wC a cy IC AC TC ++ wM b2 cy IM AM TM) H → va_D (fun q : Nat => s.heap.size ≤ q) (wC a cy IC AC TC ++ wM b2 cy IM AM TM) → va_S (fun q : Nat => s.heap.size ≤ q) s.heap H locs → ∀ ls : Array Slot, lv_has ls 4 [(0, .ref b), (1, .ref (a 0)), (2, .ref (b2 0)), (3, .int (iI (i : Int)))] → W p l e room_1 s m #[Value.ref b] below meth c H locs 600000 7302250 (lw_Z below #[Value.ref b] s) (F0 m 664 ls []) := by
  intro IC AC TC IM AM TM hrel H locs hP hD hS ls hl
  have hA : ∀ q : Nat, s.heap.size ≤ q → (fun q : Nat => s.heap.size ≤ q) q := fun _ h => h
  have hbA : ¬ (fun q : Nat => s.heap.size ≤ q) b := Nat.not_le.mpr hbl
  obtain ⟨r1, r2, h1, h2, h3, hrel2⟩ := hst IC AC TC IM AM TM hrel (xs (iI (i : Int) + iI 1).toNatClampNeg)
  refine lv_aload_n hx hb dL_law_664 rfl (lv_at hl 1 rfl) ?_
  refine lv_aload_n hx hb dL_law_665 rfl (lv_at hl 0 rfl) ?_
  refine lv_iload_n hx hb dL_law_666 rfl (lv_at hl 3 rfl) ?_
  refine lv_iconst (v := iI 1) hx hb dL_law_667 rfl ?_
  refine lv_iadd hx hb dL_law_668 ?_
  refine va_sld hx hb hX hbl hbA hS (lw_in (k := 1) hL (by omega)) dL_law_669 ?_
  refine lawC_i (As := [.int (xs (iI (i : Int) + iI 1).toNatClampNeg)]) (rest := []) hx hb hml hown hts (c_X7_back_C l dC dI a cy N IC AC TC (xs (iI (i : Int) + iI 1).toNatClampNeg) r1 h1) (cwV 1 hts gL_law_X7_back rfl rfl rfl (by decide +kernel) ⟨Nat.le_of_ble_eq_true rfl, Nat.le_of_ble_eq_true rfl⟩) hK hP hD hS hA rfl hl.1 rfl (Nat.le_of_ble_eq_true rfl) dL_law_670 (Nat.le_refl _) (Nat.le_refl _) (fun H locs hP hD hS => ?_)
  refine lv_aload_n hx hb dL_law_673 rfl (lv_at hl 2 rfl) ?_
  refine lv_aload_n hx hb dL_law_674 rfl (lv_at hl 0 rfl) ?_
  refine lv_iload_n hx hb dL_law_675 rfl (lv_at hl 3 rfl) ?_
  refine lv_iconst (v := iI 1) hx hb dL_law_676 rfl ?_
  refine lv_iadd hx hb dL_law_677 ?_
  refine va_sld hx hb hX hbl hbA hS (lw_in (k := 1) hL (by omega)) dL_law_678 ?_
  refine lawM_i (As := [.int (xs (iI (i : Int) + iI 1).toNatClampNeg)]) (rest := [.int r1.1]) hx hb hml hown hts (c_X8_back_M l dC dI b2 cy N IM AM TM (xs (iI (i : Int) + iI 1).toNatClampNeg) r2 h2) (cwV 1 hts gL_law_X8_back rfl rfl rfl (by decide +kernel) ⟨Nat.le_of_ble_eq_true rfl, Nat.le_of_ble_eq_true rfl⟩) hK hP hD hS hA rfl hl.1 rfl (Nat.le_of_ble_eq_true rfl) dL_law_679 (Nat.le_refl _) (Nat.le_refl _) (fun H locs hP hD hS => ?_)
  refine lv_icmp_eq (tgt := 724) hx hb dL_law_682 (by decide) (fun _ => ?_) (fun q => absurd h3 q)
  exact kk r1.2.1 r1.2.2 TC r2.2.1 r2.2.2 TM hrel2 _ _ hP hD hS ls hl
set_option maxHeartbeats 8000000 in
set_option maxRecDepth 100000 in
theorem lw_count {p : Program} {l : Launch} {e : Env} {s : State} {m : MethodId} {below : List Frame} {meth : Method} {c : Code} {dC : Nat → ClassId} {dI : Nat → Nat → Nat} {b L : Nat} {xs : Nat → Int32} {Rel : (Nat → Int32) → (Nat → Nat → Int32) → Int64 → (Nat → Int32) → (Nat → Nat → Int32) → Int64 → Prop} (N : Nat) (hst : St_count N Rel) (a b2 : Nat → Nat) (cy : Nat → ClassId) (i : Nat) (hL : L ≤ 320) (hiL : i + 5 ≤ L) (hx : p.tables.exec = Jvm.exec) (hb : c.code = cL_law) (hml : c.maxLocals = 4) (hown : s.vm.findClass RL = some m.cls) (hts : ∀ w ∈ wsL_law, w.before #[Value.ref b] s = true) (hX : va_X b L xs s s.heap) (hbl : b < s.heap.size) (hK : va_K (dC, dI) vwCl (g_tys cy) s)
    (kk : ∀ (IC : Nat → Int32) (AC : Nat → Nat → Int32) (TC : Int64) (IM : Nat → Int32) (AM : Nat → Nat → Int32) (TM : Int64), Rel IC AC TC IM AM TM → ∀ (H : Heap) (locs : List Loc), va_P (dC, dI) vwCl (wC a cy IC AC TC ++ wM b2 cy IM AM TM) H → va_D (fun q : Nat => s.heap.size ≤ q) (wC a cy IC AC TC ++ wM b2 cy IM AM TM) → va_S (fun q : Nat => s.heap.size ≤ q) s.heap H locs → ∀ ls : Array Slot, lv_has ls 4 [(0, .ref b), (1, .ref (a 0)), (2, .ref (b2 0)), (3, .int (iI (i : Int)))] → W p l e room_1 s m #[Value.ref b] below meth c H locs 600000 7302250 (lw_Z below #[Value.ref b] s) (F0 m 724 ls [])) :
    ∀ (IC : Nat → Int32) (AC : Nat → Nat → Int32) (TC : Int64) (IM : Nat → Int32) (AM : Nat → Nat → Int32) (TM : Int64), Rel IC AC TC IM AM TM → ∀ (H : Heap) (locs : List Loc), va_P (dC, dI) vwCl (wC a cy IC AC TC ++ wM b2 cy IM AM TM) H → va_D (fun q : Nat => s.heap.size ≤ q) (wC a cy IC AC TC ++ wM b2 cy IM AM TM) → va_S (fun q : Nat => s.heap.size ≤ q) s.heap H locs → ∀ ls : Array Slot, lv_has ls 4 [(0, .ref b), (1, .ref (a 0)), (2, .ref (b2 0)), (3, .int (iI (i : Int)))] → W p l e room_1 s m #[Value.ref b] below meth c H locs 600000 7302250 (lw_Z below #[Value.ref b] s) (F0 m 687 ls []) := by
  intro IC AC TC IM AM TM hrel H locs hP hD hS ls hl
  have hA : ∀ q : Nat, s.heap.size ≤ q → (fun q : Nat => s.heap.size ≤ q) q := fun _ h => h
  have hbA : ¬ (fun q : Nat => s.heap.size ≤ q) b := Nat.not_le.mpr hbl
  obtain ⟨r1, r2, h1, h2, h3, hrel2⟩ := hst IC AC TC IM AM TM hrel (xs (iI (i : Int) + iI 1).toNatClampNeg)
  refine lv_aload_n hx hb dL_law_687 rfl (lv_at hl 1 rfl) ?_
  refine lv_aload_n hx hb dL_law_688 rfl (lv_at hl 0 rfl) ?_
  refine lv_iload_n hx hb dL_law_689 rfl (lv_at hl 3 rfl) ?_
  refine lv_iconst (v := iI 1) hx hb dL_law_690 rfl ?_
  refine lv_iadd hx hb dL_law_691 ?_
  refine va_sld hx hb hX hbl hbA hS (lw_in (k := 1) hL (by omega)) dL_law_692 ?_
  refine lawC_i (As := [.int (xs (iI (i : Int) + iI 1).toNatClampNeg)]) (rest := []) hx hb hml hown hts (c_X7_count_C l dC dI a cy N IC AC TC (xs (iI (i : Int) + iI 1).toNatClampNeg) r1 h1) (cwV 1 hts gL_law_X7_count rfl rfl rfl (by decide +kernel) ⟨Nat.le_of_ble_eq_true rfl, Nat.le_of_ble_eq_true rfl⟩) hK hP hD hS hA rfl hl.1 rfl (Nat.le_of_ble_eq_true rfl) dL_law_693 (Nat.le_refl _) (Nat.le_refl _) (fun H locs hP hD hS => ?_)
  refine lv_aload_n hx hb dL_law_696 rfl (lv_at hl 2 rfl) ?_
  refine lv_aload_n hx hb dL_law_697 rfl (lv_at hl 0 rfl) ?_
  refine lv_iload_n hx hb dL_law_698 rfl (lv_at hl 3 rfl) ?_
  refine lv_iconst (v := iI 1) hx hb dL_law_699 rfl ?_
  refine lv_iadd hx hb dL_law_700 ?_
  refine va_sld hx hb hX hbl hbA hS (lw_in (k := 1) hL (by omega)) dL_law_701 ?_
  refine lawM_i (As := [.int (xs (iI (i : Int) + iI 1).toNatClampNeg)]) (rest := [.int r1]) hx hb hml hown hts (c_X8_count_M l dC dI b2 cy N IM AM TM (xs (iI (i : Int) + iI 1).toNatClampNeg) r2 h2) (cwV 1 hts gL_law_X8_count rfl rfl rfl (by decide +kernel) ⟨Nat.le_of_ble_eq_true rfl, Nat.le_of_ble_eq_true rfl⟩) hK hP hD hS hA rfl hl.1 rfl (Nat.le_of_ble_eq_true rfl) dL_law_702 (Nat.le_refl _) (Nat.le_refl _) (fun H locs hP hD hS => ?_)
  refine lv_icmp_eq (tgt := 724) hx hb dL_law_705 (by decide) (fun _ => ?_) (fun q => absurd h3 q)
  exact kk IC AC TC IM AM TM hrel2 _ _ hP hD hS ls hl
set_option maxHeartbeats 8000000 in
set_option maxRecDepth 100000 in
theorem lw_trace {p : Program} {l : Launch} {e : Env} {s : State} {m : MethodId} {below : List Frame} {meth : Method} {c : Code} {dC : Nat → ClassId} {dI : Nat → Nat → Nat} {b L : Nat} {xs : Nat → Int32} {Rel : (Nat → Int32) → (Nat → Nat → Int32) → Int64 → (Nat → Int32) → (Nat → Nat → Int32) → Int64 → Prop} (N : Nat) (hst : St_trace N Rel) (a b2 : Nat → Nat) (cy : Nat → ClassId) (i : Nat) (hL : L ≤ 320) (hiL : i + 5 ≤ L) (hx : p.tables.exec = Jvm.exec) (hb : c.code = cL_law) (hml : c.maxLocals = 4) (hown : s.vm.findClass RL = some m.cls) (hts : ∀ w ∈ wsL_law, w.before #[Value.ref b] s = true) (hX : va_X b L xs s s.heap) (hbl : b < s.heap.size) (hK : va_K (dC, dI) vwCl (g_tys cy) s)
    (kk : ∀ (IC : Nat → Int32) (AC : Nat → Nat → Int32) (TC : Int64) (IM : Nat → Int32) (AM : Nat → Nat → Int32) (TM : Int64), Rel IC AC TC IM AM TM → ∀ (H : Heap) (locs : List Loc), va_P (dC, dI) vwCl (wC a cy IC AC TC ++ wM b2 cy IM AM TM) H → va_D (fun q : Nat => s.heap.size ≤ q) (wC a cy IC AC TC ++ wM b2 cy IM AM TM) → va_S (fun q : Nat => s.heap.size ≤ q) s.heap H locs → ∀ ls : Array Slot, lv_has ls 4 [(0, .ref b), (1, .ref (a 0)), (2, .ref (b2 0)), (3, .int (iI (i : Int)))] → W p l e room_1 s m #[Value.ref b] below meth c H locs 600000 7302250 (lw_Z below #[Value.ref b] s) (F0 m 724 ls [])) :
    ∀ (IC : Nat → Int32) (AC : Nat → Nat → Int32) (TC : Int64) (IM : Nat → Int32) (AM : Nat → Nat → Int32) (TM : Int64), Rel IC AC TC IM AM TM → ∀ (H : Heap) (locs : List Loc), va_P (dC, dI) vwCl (wC a cy IC AC TC ++ wM b2 cy IM AM TM) H → va_D (fun q : Nat => s.heap.size ≤ q) (wC a cy IC AC TC ++ wM b2 cy IM AM TM) → va_S (fun q : Nat => s.heap.size ≤ q) s.heap H locs → ∀ ls : Array Slot, lv_has ls 4 [(0, .ref b), (1, .ref (a 0)), (2, .ref (b2 0)), (3, .int (iI (i : Int)))] → W p l e room_1 s m #[Value.ref b] below meth c H locs 600000 7302250 (lw_Z below #[Value.ref b] s) (F0 m 710 ls []) := by
  intro IC AC TC IM AM TM hrel H locs hP hD hS ls hl
  have hA : ∀ q : Nat, s.heap.size ≤ q → (fun q : Nat => s.heap.size ≤ q) q := fun _ h => h
  have hbA : ¬ (fun q : Nat => s.heap.size ≤ q) b := Nat.not_le.mpr hbl
  obtain ⟨r1, r2, h1, h2, h3, hrel2⟩ := hst IC AC TC IM AM TM hrel
  refine lv_aload_n hx hb dL_law_710 rfl (lv_at hl 1 rfl) ?_
  refine lawC_l (As := []) (rest := []) hx hb hml hown hts (c_X7_trace_C l dC dI a cy N IC AC TC r1 h1) (cwV 0 hts gL_law_X7_trace rfl rfl rfl (by decide +kernel) ⟨Nat.le_of_ble_eq_true rfl, Nat.le_of_ble_eq_true rfl⟩) hK hP hD hS hA rfl hl.1 rfl (Nat.le_of_ble_eq_true rfl) dL_law_711 (Nat.le_refl _) (Nat.le_refl _) (fun H locs hP hD hS => ?_)
  refine lv_aload_n hx hb dL_law_714 rfl (lv_at hl 2 rfl) ?_
  refine lawM_l (As := []) (rest := [.long r1]) hx hb hml hown hts (c_X8_trace_M l dC dI b2 cy N IM AM TM r2 h2) (cwV 0 hts gL_law_X8_trace rfl rfl rfl (by decide +kernel) ⟨Nat.le_of_ble_eq_true rfl, Nat.le_of_ble_eq_true rfl⟩) hK hP hD hS hA rfl hl.1 rfl (Nat.le_of_ble_eq_true rfl) dL_law_715 (Nat.le_refl _) (Nat.le_refl _) (fun H locs hP hD hS => ?_)
  refine W.lcmp hx hb dL_law_718 ?_
  rw [h3, lw_lcmp]
  refine lv_if_eq (tgt := 724) hx hb dL_law_719 (by decide) (fun _ => ?_) (fun q => absurd rfl q)
  exact kk IC AC TC IM AM TM hrel2 _ _ hP hD hS ls hl
