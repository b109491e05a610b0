set_option maxHeartbeats 4000000 in
set_option maxRecDepth 100000 in
theorem c_X5_in (l : Launch) (g : sp_G) (x lo hi : Int32) : sp_CB l g yX5_in wsX5_in ({ frames := 0, cells := 0, slots := 0, locals := 0 }) [.int x, .int lo, .int hi] ([]) (fun b (_ : Unit) => b = sp_inI x lo hi) (fun _ => []) := by
  refine sp_CB.of (cc := cX5_in) (maxL := 3) (by decide) rfl (Nat.le_of_ble_eq_true rfl) ?_
  intro p e s m below meth c Q A ls SF hK hP hD hA hl hend
  have hx := SF.1
  have hb := SF.2.1
  have hown : s.vm.findClass RX5 = some m.cls := SF.2.2.2.1
  have hts := SF.2.2.2.2
  have hS : va_S A s.heap s.heap [] := va_S.rf
  have hl : lv_has ls 3 [(0, .int x), (1, .int lo), (2, .int hi)] := hl
  refine lv_iload_n hx hb dX5_in_0 rfl (lv_at hl 0 rfl) ?_
  refine lv_iload_n hx hb dX5_in_1 rfl (lv_at hl 1 rfl) ?_
  refine lv_icmp_lt (tgt := 14) hx hb dX5_in_2 (by decide) (fun c1 => ?_) (fun c1 => ?_)
  · refine lv_iconst (v := bI false) hx hb dX5_in_14 (by decide) ?_
    exact hend _ _ _ _ false () dX5_in_15 (by first | exact sp_inI_1 c1 | exact sp_inI_2 c2 | exact sp_inI_3 c1 c2) hP hD hS
  · refine lv_iload_n hx hb dX5_in_5 rfl (lv_at hl 0 rfl) ?_
    refine lv_iload_n hx hb dX5_in_6 rfl (lv_at hl 2 rfl) ?_
    refine lv_icmp_gt (tgt := 14) hx hb dX5_in_7 (by decide) (fun c2 => ?_) (fun c2 => ?_)
    · refine lv_iconst (v := bI false) hx hb dX5_in_14 (by decide) ?_
      exact hend _ _ _ _ false () dX5_in_15 (by first | exact sp_inI_1 c1 | exact sp_inI_2 c2 | exact sp_inI_3 c1 c2) hP hD hS
    · refine lv_iconst (v := bI true) hx hb dX5_in_10 (by decide) ?_
      refine lv_goto (tgt := 15) hx hb dX5_in_11 (by decide) ?_
      exact hend _ _ _ _ true () dX5_in_15 (by first | exact sp_inI_1 c1 | exact sp_inI_2 c2 | exact sp_inI_3 c1 c2) hP hD hS

set_option maxHeartbeats 4000000 in
set_option maxRecDepth 100000 in
theorem c_X5_isFloor (l : Launch) (g : sp_G) (a : sp_A9) (v : sp_V) (t : sp_T) (hM : sp_Rm v.1 t) (hI : sp_I t) (x : Int32) : sp_CB l g yX5_isFloor wsX5_isFloor ({ frames := 1, cells := 0, slots := 0, locals := 22 }) [.ref a.1, .int x] (mdW g a v) (fun b (_ : Unit) => b = sp_has x (tn t)) (fun _ => mdW g a v) := by
  refine sp_CB.of (cc := cX5_isFloor) (maxL := 2) (by decide) rfl (Nat.le_of_ble_eq_true rfl) ?_
  intro p e s m below meth c Q A ls SF hK hP hD hA hl hend
  have hx := SF.1
  have hb := SF.2.1
  have hown : s.vm.findClass RX5 = some m.cls := SF.2.2.2.1
  have hts := SF.2.2.2.2
  have hS : va_S A s.heap s.heap [] := va_S.rf
  have inX5 : ∀ w ∈ wsX50, w ∈ wsX5_isFloor := fun w h => List.mem_cons_of_mem _ (List.mem_append_right _ h)
  have hl : lv_has ls 2 [(0, .ref a.1), (1, .int x)] := hl
  have hn8 := hI.n
  refine lv_iload_n hx hb dX5_isFloor_0 rfl (lv_at hl 1 rfl) ?_
  refine lv_iconst (v := nI 0) hx hb dX5_isFloor_1 (by decide) ?_
  refine lv_aload_n hx hb dX5_isFloor_2 rfl (lv_at hl 0 rfl) ?_
  refine va_get (D := g.1) (ci := 5) (v := .ref a.2.1) (C := RX5) (T := TX5) (N := 11) hx hb hts inX5 hown hK.1 hP 0 rfl rfl 0 (by decide) (hts _ (List.mem_of_getElem? (i := 1) rfl)) (fun _ h9 => h9) rfl dX5_isFloor_3 ?_
  refine lv_iconst (v := nI 1) hx hb dX5_isFloor_6 (by decide) ?_
  refine va_iald hx hb hK.1 hP 1 0 rfl rfl (vp_in_nI (by omega) (by omega)) dX5_isFloor_7 ?_
  refine sp_top (y := v.1 1) (congrArg v.1 (sp_c8 (k := 1) (by omega))) ?_
  refine sp_top (y := nI (tn t)) (hM.n) ?_
  refine lv_iconst (v := nI 1) hx hb dX5_isFloor_8 (by decide) ?_
  refine lv_isub hx hb dX5_isFloor_9 ?_
  refine sp_si (n := 3) (wc := []) (wr := (mdW g a v)) SF hK hA (c_X5_in l g x (nI 0) ((nI (tn t)) - (nI 1))) gX5_isFloor_X5_in rfl rfl rfl (by decide +kernel) rfl ⟨Nat.le_of_ble_eq_true rfl, Nat.le_of_ble_eq_true rfl⟩ hP hD hS hl.1 rfl (Nat.le_of_ble_eq_true rfl) dX5_isFloor_10 (fun r9 u9 H locs hbb hP hD hS => ?_)
  obtain ⟨bb, rfl, hbb⟩ := hbb
  have hP : va_P g.1 vwCl (mdW g a v) H := hP
  have hD : va_D A (mdW g a v) := hD
  exact hend _ _ _ _ bb () dX5_isFloor_13 (hbb.trans (sp_inI_has hn8)) hP hD hS

set_option maxHeartbeats 4000000 in
set_option maxRecDepth 100000 in
theorem c_X5_of (l : Launch) (g : sp_G) (a : sp_A9) (v : sp_V) (i w : Nat) (hi : i < 8) (hw : w < 4) : sp_CI l g yX5_of wsX5_of ({ frames := 0, cells := 0, slots := 0, locals := 0 }) [.ref a.1, .int (nI i), .int (nI w)] (mdW g a v) (fun z (_ : Unit) => z = v.1 (6 + 4 * i + w)) (fun _ => mdW g a v) := by
  refine sp_CI.of (cc := cX5_of) (maxL := 3) (by decide) rfl (Nat.le_of_ble_eq_true rfl) ?_
  intro p e s m below meth c Q A ls SF hK hP hD hA hl hend
  have hx := SF.1
  have hb := SF.2.1
  have hown : s.vm.findClass RX5 = some m.cls := SF.2.2.2.1
  have hts := SF.2.2.2.2
  have hS : va_S A s.heap s.heap [] := va_S.rf
  have inX5 : ∀ w ∈ wsX50, w ∈ wsX5_of := fun w h => List.mem_cons_of_mem _ (List.mem_append_right _ h)
  have hl : lv_has ls 3 [(0, .ref a.1), (1, .int (nI i)), (2, .int (nI w))] := hl
  refine lv_aload_n hx hb dX5_of_0 rfl (lv_at hl 0 rfl) ?_
  refine va_get (D := g.1) (ci := 5) (v := .ref a.2.1) (C := RX5) (T := TX5) (N := 11) hx hb hts inX5 hown hK.1 hP 0 rfl rfl 0 (by decide) (hts _ (List.mem_of_getElem? (i := 1) rfl)) (fun _ h9 => h9) rfl dX5_of_1 ?_
  refine lv_bipush (v := nI 6) hx hb dX5_of_4 (by decide) ?_
  refine lv_iconst (v := nI 4) hx hb dX5_of_6 (by decide) ?_
  refine lv_iload_n hx hb dX5_of_7 rfl (lv_at hl 1 rfl) ?_
  refine lv_imul hx hb dX5_of_8 ?_
  refine sp_top (y := nI (4 * i)) (sp_mul _ _) ?_
  refine lv_iadd hx hb dX5_of_9 ?_
  refine sp_top (y := nI (6 + (4 * i))) (nI_add _ _) ?_
  refine lv_iload_n hx hb dX5_of_10 rfl (lv_at hl 2 rfl) ?_
  refine lv_iadd hx hb dX5_of_11 ?_
  refine sp_top (y := nI ((6 + (4 * i)) + w)) (nI_add _ _) ?_
  refine va_iald hx hb hK.1 hP 1 0 rfl rfl (vp_in_nI (by omega) (by omega)) dX5_of_12 ?_
  refine sp_top (y := v.1 ((6 + (4 * i)) + w)) (congrArg v.1 (sp_c8 (k := ((6 + (4 * i)) + w)) (by omega))) ?_
  exact hend _ _ _ _ _ () dX5_of_13 (rfl) hP hD hS

set_option maxHeartbeats 4000000 in
set_option maxRecDepth 100000 in
theorem c_X5_put (l : Launch) (g : sp_G) (a : sp_A9) (v : sp_V) (i w : Nat) (hi : i < 8) (hw : w < 4) (x : Int32) : sp_CV l g yX5_put wsX5_put ({ frames := 0, cells := 0, slots := 0, locals := 0 }) [.ref a.1, .int (nI i), .int (nI w), .int x] (mdW g a v) (fun _ : Unit => True) (fun _ => mdW g a (upd v.1 (6 + 4 * i + w) x, v.2)) := by
  refine sp_CV.of (cc := cX5_put) (maxL := 4) (by decide) rfl (Nat.le_of_ble_eq_true rfl) ?_
  intro p e s m below meth c Q A ls SF hK hP hD hA hl hend
  have hx := SF.1
  have hb := SF.2.1
  have hown : s.vm.findClass RX5 = some m.cls := SF.2.2.2.1
  have hts := SF.2.2.2.2
  have hS : va_S A s.heap s.heap [] := va_S.rf
  have inX5 : ∀ w ∈ wsX50, w ∈ wsX5_put := fun w h => List.mem_cons_of_mem _ (List.mem_append_right _ h)
  have hl : lv_has ls 4 [(0, .ref a.1), (1, .int (nI i)), (2, .int (nI w)), (3, .int x)] := hl
  refine lv_aload_n hx hb dX5_put_0 rfl (lv_at hl 0 rfl) ?_
  refine va_get (D := g.1) (ci := 5) (v := .ref a.2.1) (C := RX5) (T := TX5) (N := 11) hx hb hts inX5 hown hK.1 hP 0 rfl rfl 0 (by decide) (hts _ (List.mem_of_getElem? (i := 1) rfl)) (fun _ h9 => h9) rfl dX5_put_1 ?_
  refine lv_bipush (v := nI 6) hx hb dX5_put_4 (by decide) ?_
  refine lv_iconst (v := nI 4) hx hb dX5_put_6 (by decide) ?_
  refine lv_iload_n hx hb dX5_put_7 rfl (lv_at hl 1 rfl) ?_
  refine lv_imul hx hb dX5_put_8 ?_
  refine sp_top (y := nI (4 * i)) (sp_mul _ _) ?_
  refine lv_iadd hx hb dX5_put_9 ?_
  refine sp_top (y := nI (6 + (4 * i))) (nI_add _ _) ?_
  refine lv_iload_n hx hb dX5_put_10 rfl (lv_at hl 2 rfl) ?_
  refine lv_iadd hx hb dX5_put_11 ?_
  refine sp_top (y := nI ((6 + (4 * i)) + w)) (nI_add _ _) ?_
  refine lv_iload_n hx hb dX5_put_12 rfl (lv_at hl 3 rfl) ?_
  refine va_iast hx hb hK.1 hP hD hS 1 0 rfl rfl (vp_in_nI (by omega) (by omega)) dX5_put_13 (fun H locs hP hD hS => ?_)
  rw [sp_c8 (k := ((6 + (4 * i)) + w)) (by omega)] at hP hD
  have hP : va_P g.1 vwCl (mdW g a ((upd v.1 ((6 + (4 * i)) + w) x), v.2.1, v.2.2.1, v.2.2.2.1, v.2.2.2.2.1, v.2.2.2.2.2.1, v.2.2.2.2.2.2.1, v.2.2.2.2.2.2.2.1, v.2.2.2.2.2.2.2.2.1, v.2.2.2.2.2.2.2.2.2.1, v.2.2.2.2.2.2.2.2.2.2)) H := hP
  have hD : va_D A (mdW g a ((upd v.1 ((6 + (4 * i)) + w) x), v.2.1, v.2.2.1, v.2.2.2.1, v.2.2.2.2.1, v.2.2.2.2.2.1, v.2.2.2.2.2.2.1, v.2.2.2.2.2.2.2.1, v.2.2.2.2.2.2.2.2.1, v.2.2.2.2.2.2.2.2.2.1, v.2.2.2.2.2.2.2.2.2.2)) := hD
  exact hend _ _ _ _ () dX5_put_14 (trivial) hP hD hS

set_option maxHeartbeats 4000000 in
set_option maxRecDepth 100000 in
theorem c_X5_lays (l : Launch) (g : sp_G) (a : sp_A9) (v : sp_V) : sp_CV l g yX5_lays wsX5_lays ({ frames := 0, cells := 0, slots := 0, locals := 0 }) [.ref a.1] (mdW g a v) (fun h : Nat → Int32 => ∀ j, j < 38 → h j = v.1 j) (fun h => mdW g a (v.1, h, v.2.2)) := by
  refine sp_CV.of (cc := cX5_lays) (maxL := 2) (by decide) rfl (Nat.le_of_ble_eq_true rfl) ?_
  intro p e s m below meth c Q A ls SF hK hP hD hA hl hend
  have hx := SF.1
  have hb := SF.2.1
  have hown : s.vm.findClass RX5 = some m.cls := SF.2.2.2.1
  have hts := SF.2.2.2.2
  have hS : va_S A s.heap s.heap [] := va_S.rf
  have inX5 : ∀ w ∈ wsX50, w ∈ wsX5_lays := fun w h => List.mem_cons_of_mem _ (List.mem_append_right _ h)
  have hl : lv_has ls 2 [(0, .ref a.1)] := hl
  refine lv_iconst (v := nI 0) hx hb dX5_lays_0 (by decide) ?_
  refine lv_istore_n (lv' := [(1, .int (nI 0)), (0, .ref a.1)]) hx hb dX5_lays_1 rfl hl (by decide) rfl (fun ls hl => ?_)
  have hloop2 : ∀ (n2 : Nat) (k : Nat) (h : Nat → Int32) (H : Heap) (locs : List Loc) (ls : Array Slot), (k ≤ 38) → (∀ j, j < k → h j = v.1 j) → 38 - k < n2 → va_P g.1 vwCl (mdW g a (v.1, h, v.2.2.1, v.2.2.2.1, v.2.2.2.2.1, v.2.2.2.2.2.1, v.2.2.2.2.2.2.1, v.2.2.2.2.2.2.2.1, v.2.2.2.2.2.2.2.2.1, v.2.2.2.2.2.2.2.2.2.1, v.2.2.2.2.2.2.2.2.2.2)) H → va_D A (mdW g a (v.1, h, v.2.2.1, v.2.2.2.1, v.2.2.2.2.1, v.2.2.2.2.2.1, v.2.2.2.2.2.2.1, v.2.2.2.2.2.2.2.1, v.2.2.2.2.2.2.2.2.1, v.2.2.2.2.2.2.2.2.2.1, v.2.2.2.2.2.2.2.2.2.2)) → va_S A s.heap H locs → lv_has ls 2 [(0, .ref a.1), (1, .int (nI k))] → W p l e ({ frames := 0, cells := 0, slots := 0, locals := 0 }) s m ([.ref a.1] : List Value).toArray below meth c H locs 0 0 Q (F0 m 2 ls []) := by
    intro n2
    induction n2 with
    | zero =>
      intro k h H locs ls hk hh h9
      exact absurd h9 (Nat.not_lt_zero _)
    | succ n2 ih2 =>
      intro k h H locs ls hk hh hm2 hP hD hS hl
      refine lv_iload_n hx hb dX5_lays_2 rfl (lv_at hl 1 rfl) ?_
      refine lv_bipush (v := nI 38) hx hb dX5_lays_3 (by decide) ?_
      refine lv_icmp_ge (tgt := 26) hx hb dX5_lays_5 (by decide) (fun c1 => ?_) (fun c1 => ?_)
      · have c1 := (nI_leI (by omega) (by omega)).mp c1
        exact hend _ _ _ _ h dX5_lays_26 (fun j hj => hh j (by omega)) hP hD hS
      · have c1 := mt (nI_leI (by omega) (by omega)).mpr c1
        refine lv_aload_n hx hb dX5_lays_8 rfl (lv_at hl 0 rfl) ?_
        refine va_get (D := g.1) (ci := 5) (v := .ref a.2.2.1) (C := RX5) (T := TX5) (N := 11) hx hb hts inX5 hown hK.1 hP 0 rfl rfl 1 (by decide) (hts _ (List.mem_of_getElem? (i := 1) rfl)) (fun _ h9 => h9) rfl dX5_lays_9 ?_
        refine lv_iload_n hx hb dX5_lays_12 rfl (lv_at hl 1 rfl) ?_
        refine lv_aload_n hx hb dX5_lays_13 rfl (lv_at hl 0 rfl) ?_
        refine va_get (D := g.1) (ci := 5) (v := .ref a.2.1) (C := RX5) (T := TX5) (N := 11) hx hb hts inX5 hown hK.1 hP 0 rfl rfl 0 (by decide) (hts _ (List.mem_of_getElem? (i := 2) rfl)) (fun _ h9 => h9) rfl dX5_lays_14 ?_
        refine lv_iload_n hx hb dX5_lays_17 rfl (lv_at hl 1 rfl) ?_
        refine va_iald hx hb hK.1 hP 1 0 rfl rfl (vp_in_nI (by omega) (by omega)) dX5_lays_18 ?_
        refine sp_top (y := v.1 k) (congrArg v.1 (sp_c8 (k := k) (by omega))) ?_
        refine va_iast hx hb hK.1 hP hD hS 2 0 rfl rfl (vp_in_nI (by omega) (by omega)) dX5_lays_19 (fun H locs hP hD hS => ?_)
        rw [sp_c8 (k := k) (by omega)] at hP hD
        have hP : va_P g.1 vwCl (mdW g a (v.1, (upd h k (v.1 k)), v.2.2.1, v.2.2.2.1, v.2.2.2.2.1, v.2.2.2.2.2.1, v.2.2.2.2.2.2.1, v.2.2.2.2.2.2.2.1, v.2.2.2.2.2.2.2.2.1, v.2.2.2.2.2.2.2.2.2.1, v.2.2.2.2.2.2.2.2.2.2)) H := hP
        have hD : va_D A (mdW g a (v.1, (upd h k (v.1 k)), v.2.2.1, v.2.2.2.1, v.2.2.2.2.1, v.2.2.2.2.2.1, v.2.2.2.2.2.2.1, v.2.2.2.2.2.2.2.1, v.2.2.2.2.2.2.2.2.1, v.2.2.2.2.2.2.2.2.2.1, v.2.2.2.2.2.2.2.2.2.2)) := hD
        refine lv_iinc (v := nI (k + 1)) (lv' := [(1, .int (nI (k + 1))), (0, .ref a.1)]) hx hb dX5_lays_20 hl (k := 1) rfl (nI_1 k) (by decide) rfl (fun ls hl => ?_)
        refine lv_goto (tgt := 2) hx hb dX5_lays_23 (by decide) ?_
        exact ih2 (k + 1) (upd h k (v.1 k)) _ _ _ (by omega) (sp_upd_ext0 hh rfl) (by omega) hP hD hS (lv_sub hl [1, 0] rfl)
  exact hloop2 (_ + 1) 0 v.2.1 _ _ _ (by omega) (fun j hj => absurd hj (Nat.not_lt_zero j)) (Nat.lt_succ_self _) hP hD hS (lv_sub hl [1, 0] rfl)

set_option maxHeartbeats 4000000 in
set_option maxRecDepth 100000 in
theorem c_X5_takesBack (l : Launch) (g : sp_G) (a : sp_A9) (v : sp_V) : sp_CV l g yX5_takesBack wsX5_takesBack ({ frames := 0, cells := 0, slots := 0, locals := 0 }) [.ref a.1] (mdW g a v) (fun h : Nat → Int32 => ∀ j, j < 38 → h j = v.2.1 j) (fun h => mdW g a (h, v.2)) := by
  refine sp_CV.of (cc := cX5_takesBack) (maxL := 2) (by decide) rfl (Nat.le_of_ble_eq_true rfl) ?_
  intro p e s m below meth c Q A ls SF hK hP hD hA hl hend
  have hx := SF.1
  have hb := SF.2.1
  have hown : s.vm.findClass RX5 = some m.cls := SF.2.2.2.1
  have hts := SF.2.2.2.2
  have hS : va_S A s.heap s.heap [] := va_S.rf
  have inX5 : ∀ w ∈ wsX50, w ∈ wsX5_takesBack := fun w h => List.mem_cons_of_mem _ (List.mem_append_right _ h)
  have hl : lv_has ls 2 [(0, .ref a.1)] := hl
  refine lv_iconst (v := nI 0) hx hb dX5_takesBack_0 (by decide) ?_
  refine lv_istore_n (lv' := [(1, .int (nI 0)), (0, .ref a.1)]) hx hb dX5_takesBack_1 rfl hl (by decide) rfl (fun ls hl => ?_)
  have hloop2 : ∀ (n2 : Nat) (k : Nat) (h : Nat → Int32) (H : Heap) (locs : List Loc) (ls : Array Slot), (k ≤ 38) → (∀ j, j < k → h j = v.2.1 j) → 38 - k < n2 → va_P g.1 vwCl (mdW g a (h, v.2.1, v.2.2.1, v.2.2.2.1, v.2.2.2.2.1, v.2.2.2.2.2.1, v.2.2.2.2.2.2.1, v.2.2.2.2.2.2.2.1, v.2.2.2.2.2.2.2.2.1, v.2.2.2.2.2.2.2.2.2.1, v.2.2.2.2.2.2.2.2.2.2)) H → va_D A (mdW g a (h, v.2.1, v.2.2.1, v.2.2.2.1, v.2.2.2.2.1, v.2.2.2.2.2.1, v.2.2.2.2.2.2.1, v.2.2.2.2.2.2.2.1, v.2.2.2.2.2.2.2.2.1, v.2.2.2.2.2.2.2.2.2.1, v.2.2.2.2.2.2.2.2.2.2)) → va_S A s.heap H locs → lv_has ls 2 [(0, .ref a.1), (1, .int (nI k))] → W p l e ({ frames := 0, cells := 0, slots := 0, locals := 0 }) s m ([.ref a.1] : List Value).toArray below meth c H locs 0 0 Q (F0 m 2 ls []) := by
    intro n2
    induction n2 with
    | zero =>
      intro k h H locs ls hk hh h9
      exact absurd h9 (Nat.not_lt_zero _)
    | succ n2 ih2 =>
      intro k h H locs ls hk hh hm2 hP hD hS hl
      refine lv_iload_n hx hb dX5_takesBack_2 rfl (lv_at hl 1 rfl) ?_
      refine lv_bipush (v := nI 38) hx hb dX5_takesBack_3 (by decide) ?_
      refine lv_icmp_ge (tgt := 26) hx hb dX5_takesBack_5 (by decide) (fun c1 => ?_) (fun c1 => ?_)
      · have c1 := (nI_leI (by omega) (by omega)).mp c1
        exact hend _ _ _ _ h dX5_takesBack_26 (fun j hj => hh j (by omega)) hP hD hS
      · have c1 := mt (nI_leI (by omega) (by omega)).mpr c1
        refine lv_aload_n hx hb dX5_takesBack_8 rfl (lv_at hl 0 rfl) ?_
        refine va_get (D := g.1) (ci := 5) (v := .ref a.2.1) (C := RX5) (T := TX5) (N := 11) hx hb hts inX5 hown hK.1 hP 0 rfl rfl 0 (by decide) (hts _ (List.mem_of_getElem? (i := 1) rfl)) (fun _ h9 => h9) rfl dX5_takesBack_9 ?_
        refine lv_iload_n hx hb dX5_takesBack_12 rfl (lv_at hl 1 rfl) ?_
        refine lv_aload_n hx hb dX5_takesBack_13 rfl (lv_at hl 0 rfl) ?_
        refine va_get (D := g.1) (ci := 5) (v := .ref a.2.2.1) (C := RX5) (T := TX5) (N := 11) hx hb hts inX5 hown hK.1 hP 0 rfl rfl 1 (by decide) (hts _ (List.mem_of_getElem? (i := 2) rfl)) (fun _ h9 => h9) rfl dX5_takesBack_14 ?_
        refine lv_iload_n hx hb dX5_takesBack_17 rfl (lv_at hl 1 rfl) ?_
        refine va_iald hx hb hK.1 hP 2 0 rfl rfl (vp_in_nI (by omega) (by omega)) dX5_takesBack_18 ?_
        refine sp_top (y := v.2.1 k) (congrArg v.2.1 (sp_c8 (k := k) (by omega))) ?_
        refine va_iast hx hb hK.1 hP hD hS 1 0 rfl rfl (vp_in_nI (by omega) (by omega)) dX5_takesBack_19 (fun H locs hP hD hS => ?_)
        rw [sp_c8 (k := k) (by omega)] at hP hD
        have hP : va_P g.1 vwCl (mdW g a ((upd h k (v.2.1 k)), v.2.1, v.2.2.1, v.2.2.2.1, v.2.2.2.2.1, v.2.2.2.2.2.1, v.2.2.2.2.2.2.1, v.2.2.2.2.2.2.2.1, v.2.2.2.2.2.2.2.2.1, v.2.2.2.2.2.2.2.2.2.1, v.2.2.2.2.2.2.2.2.2.2)) H := hP
        have hD : va_D A (mdW g a ((upd h k (v.2.1 k)), v.2.1, v.2.2.1, v.2.2.2.1, v.2.2.2.2.1, v.2.2.2.2.2.1, v.2.2.2.2.2.2.1, v.2.2.2.2.2.2.2.1, v.2.2.2.2.2.2.2.2.1, v.2.2.2.2.2.2.2.2.2.1, v.2.2.2.2.2.2.2.2.2.2)) := hD
        refine lv_iinc (v := nI (k + 1)) (lv' := [(1, .int (nI (k + 1))), (0, .ref a.1)]) hx hb dX5_takesBack_20 hl (k := 1) rfl (nI_1 k) (by decide) rfl (fun ls hl => ?_)
        refine lv_goto (tgt := 2) hx hb dX5_takesBack_23 (by decide) ?_
        exact ih2 (k + 1) (upd h k (v.2.1 k)) _ _ _ (by omega) (sp_upd_ext0 hh rfl) (by omega) hP hD hS (lv_sub hl [1, 0] rfl)
  exact hloop2 (_ + 1) 0 v.1 _ _ _ (by omega) (fun j hj => absurd hj (Nat.not_lt_zero j)) (Nat.lt_succ_self _) hP hD hS (lv_sub hl [1, 0] rfl)

set_option maxHeartbeats 4000000 in
set_option maxRecDepth 100000 in
theorem c_X5_age (l : Launch) (g : sp_G) (a : sp_A9) (v : sp_V) (t : sp_T) (hM : sp_Rm v.1 t) (hI : sp_I t) (i : Nat) (hi : i < tn t) : sp_CI l g yX5_age wsX5_age ({ frames := 1, cells := 0, slots := 0, locals := 22 }) [.ref a.1, .int (nI i)] (mdW g a v) (fun z (_ : Unit) => z = nI (sp_age t i)) (fun _ => mdW g a v) := by
  refine sp_CI.of (cc := cX5_age) (maxL := 2) (by decide) rfl (Nat.le_of_ble_eq_true rfl) ?_
  intro p e s m below meth c Q A ls SF hK hP hD hA hl hend
  have hx := SF.1
  have hb := SF.2.1
  have hown : s.vm.findClass RX5 = some m.cls := SF.2.2.2.1
  have hts := SF.2.2.2.2
  have hS : va_S A s.heap s.heap [] := va_S.rf
  have inX5 : ∀ w ∈ wsX50, w ∈ wsX5_age := fun w h => List.mem_cons_of_mem _ (List.mem_append_right _ h)
  have hl : lv_has ls 2 [(0, .ref a.1), (1, .int (nI i))] := hl
  have hn8 := hI.n
  refine lv_aload_n hx hb dX5_age_0 rfl (lv_at hl 0 rfl) ?_
  refine va_get (D := g.1) (ci := 5) (v := .ref a.2.1) (C := RX5) (T := TX5) (N := 11) hx hb hts inX5 hown hK.1 hP 0 rfl rfl 0 (by decide) (hts _ (List.mem_of_getElem? (i := 1) rfl)) (fun _ h9 => h9) rfl dX5_age_1 ?_
  refine lv_iconst (v := nI 0) hx hb dX5_age_4 (by decide) ?_
  refine va_iald hx hb hK.1 hP 1 0 rfl rfl (vp_in_nI (by omega) (by omega)) dX5_age_5 ?_
  refine sp_top (y := v.1 0) (congrArg v.1 (sp_c8 (k := 0) (by omega))) ?_
  refine sp_top (y := nI (td t)) (hM.d) ?_
  refine lv_aload_n hx hb dX5_age_6 rfl (lv_at hl 0 rfl) ?_
  refine lv_iload_n hx hb dX5_age_7 rfl (lv_at hl 1 rfl) ?_
  refine lv_iconst (v := nI 0) hx hb dX5_age_8 (by decide) ?_
  refine sp_vi0 (n := 2) SF hK hA (c_X5_of l g a v i 0 (by omega) (by omega)) gX5_age_X5_of rfl rfl rfl (by decide +kernel) rfl ⟨Nat.le_of_ble_eq_true rfl, Nat.le_of_ble_eq_true rfl⟩ 5 0 rfl rfl hP hD hS hl.1 rfl (Nat.le_of_ble_eq_true rfl) dX5_age_9 (fun r9 u9 H locs w1 hP hD hS => ?_)
  subst w1
  refine sp_top (y := nI (tpo t i)) (hM.po hi) ?_
  have hP : va_P g.1 vwCl (mdW g a v) H := hP
  have hD : va_D A (mdW g a v) := hD
  refine lv_isub hx hb dX5_age_12 ?_
  refine sp_top (y := nI (sp_age t i)) (sp_sub (hI.po hi)) ?_
  exact hend _ _ _ _ _ () dX5_age_13 (rfl) hP hD hS

set_option maxHeartbeats 4000000 in
set_option maxRecDepth 100000 in
theorem c_X5_hundredthsBy (l : Launch) (g : sp_G) (tb r : Nat) (htb : tb ≤ 2) (hr : r ≤ 2000000) : sp_CI l g yX5_hundredthsBy wsX5_hundredthsBy ({ frames := 0, cells := 0, slots := 0, locals := 0 }) [.int (nI tb), .int (nI r)] ([]) (fun z (_ : Unit) => z = nI (sp_pct tb r)) (fun _ => []) := by
  refine sp_CI.of (cc := cX5_hundredthsBy) (maxL := 4) (by decide) rfl (Nat.le_of_ble_eq_true rfl) ?_
  intro p e s m below meth c Q A ls SF hK hP hD hA hl hend
  have hx := SF.1
  have hb := SF.2.1
  have hown : s.vm.findClass RX5 = some m.cls := SF.2.2.2.1
  have hts := SF.2.2.2.2
  have hS : va_S A s.heap s.heap [] := va_S.rf
  have hl : lv_has ls 4 [(0, .int (nI tb)), (1, .int (nI r))] := hl
  refine lv_iload_n hx hb dX5_hundredthsBy_0 rfl (lv_at hl 0 rfl) ?_
  refine lv_if_ne (tgt := 13) hx hb dX5_hundredthsBy_1 (by decide) (fun c1 => ?_) (fun c1 => ?_)
  · have c1 := mt (sp_z_eq (by omega)).mpr c1
    refine lv_iload_n hx hb dX5_hundredthsBy_13 rfl (lv_at hl 0 rfl) ?_
    refine lv_iconst (v := nI 1) hx hb dX5_hundredthsBy_14 (by decide) ?_
    refine lv_icmp_ne (tgt := 34) hx hb dX5_hundredthsBy_15 (by decide) (fun c2 => ?_) (fun c2 => ?_)
    · have c2 := mt (nI_eq (by omega) (by omega)).mpr c2
      have htb2 : tb = 2 := by omega
      have hj44 : ∀ (i0 : Nat) (H : Heap) (locs : List Loc) (ls : Array Slot), (i0 = if r = 0 then 0 else 20) → va_P g.1 vwCl ([]) H → va_D A ([]) → va_S A s.heap H locs → lv_has ls 4 [(0, .int (nI tb)), (1, .int (nI r))] → W p l e ({ frames := 0, cells := 0, slots := 0, locals := 0 }) s m ([.int (nI tb), .int (nI r)] : List Value).toArray below meth c H locs 0 0 Q (F0 m 44 ls [.int (nI i0)]) := by
        intro i0 H locs ls hi0 hP hD hS hl
        refine lv_istore_n (lv' := [(2, .int (nI i0)), (0, .int (nI tb)), (1, .int (nI r))]) hx hb dX5_hundredthsBy_44 rfl hl (by decide) rfl (fun ls hl => ?_)
        refine lv_iload_n hx hb dX5_hundredthsBy_45 rfl (lv_at hl 2 rfl) ?_
        refine lv_istore_n (lv' := [(3, .int (nI r)), (2, .int (nI i0)), (0, .int (nI tb)), (1, .int (nI r))]) hx hb dX5_hundredthsBy_46 rfl hl (by decide) rfl (fun ls hl => ?_)
        have hloop47 : ∀ (n47 : Nat) (w : Nat) (rs : Nat) (H : Heap) (locs : List Loc) (ls : Array Slot), (rs ≤ 2000000) → (w + 20 * sp_hv 32 rs = i0 + 20 * sp_hv 32 r) → (rs < 2 ^ 32) → rs < n47 → va_P g.1 vwCl ([]) H → va_D A ([]) → va_S A s.heap H locs → lv_has ls 4 [(0, .int (nI tb)), (1, .int (nI r)), (2, .int (nI w)), (3, .int (nI rs))] → W p l e ({ frames := 0, cells := 0, slots := 0, locals := 0 }) s m ([.int (nI tb), .int (nI r)] : List Value).toArray below meth c H locs 0 0 Q (F0 m 47 ls []) := by
          intro n47
          induction n47 with
          | zero =>
            intro w rs H locs ls hrs hw hw3 h9
            exact absurd h9 (Nat.not_lt_zero _)
          | succ n47 ih47 =>
            intro w rs H locs ls hrs hw hw3 hm47 hP hD hS hl
            have hv32 := sp_hv_le 32 r
            have hi20 : i0 ≤ 20 := by rw [hi0]; split <;> omega
            refine lv_iload_n hx hb dX5_hundredthsBy_47 rfl (lv_at hl 3 rfl) ?_
            refine lv_iconst (v := nI 1) hx hb dX5_hundredthsBy_48 (by decide) ?_
            refine lv_icmp_le (tgt := 62) hx hb dX5_hundredthsBy_49 (by decide) (fun c5 => ?_) (fun c5 => ?_)
            · have c5 := (nI_leI (by omega) (by omega)).mp c5
              refine lv_iload_n hx hb dX5_hundredthsBy_62 rfl (lv_at hl 2 rfl) ?_
              refine lv_bipush (v := nI 100) hx hb dX5_hundredthsBy_63 (by decide) ?_
              refine lv_icmp_le (tgt := 73) hx hb dX5_hundredthsBy_65 (by decide) (fun c6 => ?_) (fun c6 => ?_)
              · have c6 := (nI_leI (by omega) (by omega)).mp c6
                refine lv_iload_n hx hb dX5_hundredthsBy_73 rfl (lv_at hl 2 rfl) ?_
                exact hend _ _ _ _ _ () dX5_hundredthsBy_74 (by rw [sp_hv_end (by omega)] at hw; have h4 := sp_hv_min 4 32 r (by omega); unfold sp_pct; rw [if_neg c1, if_neg c2]; congr 1; by_cases hz : r = 0 <;> (first | rw [if_pos hz] at hi0 ⊢ | rw [if_neg hz] at hi0 ⊢) <;> (try (have h00 := sp_hv_end (f := 32) (r := r) (by omega))) <;> omega) hP hD hS
              · have c6 := mt (nI_leI (by omega) (by omega)).mpr c6
                refine lv_bipush (v := nI 100) hx hb dX5_hundredthsBy_68 (by decide) ?_
                refine lv_goto (tgt := 74) hx hb dX5_hundredthsBy_70 (by decide) ?_
                exact hend _ _ _ _ _ () dX5_hundredthsBy_74 (by rw [sp_hv_end (by omega)] at hw; have h4 := sp_hv_min 4 32 r (by omega); unfold sp_pct; rw [if_neg c1, if_neg c2]; congr 1; by_cases hz : r = 0 <;> (first | rw [if_pos hz] at hi0 ⊢ | rw [if_neg hz] at hi0 ⊢) <;> (try (have h00 := sp_hv_end (f := 32) (r := r) (by omega))) <;> omega) hP hD hS
            · have c5 := mt (nI_leI (by omega) (by omega)).mpr c5
              refine lv_iload_n hx hb dX5_hundredthsBy_52 rfl (lv_at hl 3 rfl) ?_
              refine lv_iconst (v := nI 2) hx hb dX5_hundredthsBy_53 (by decide) ?_
              refine lv_idiv hx hb dX5_hundredthsBy_54 (sp_ne (by omega) (by omega)) ?_
              refine sp_top (y := nI (rs / 2)) (sp_div (by omega) (by omega) (by omega)) ?_
              refine lv_istore_n (lv' := [(3, .int (nI (rs / 2))), (0, .int (nI tb)), (1, .int (nI r)), (2, .int (nI w))]) hx hb dX5_hundredthsBy_55 rfl hl (by decide) rfl (fun ls hl => ?_)
              refine lv_iinc (v := nI (w + 20)) (lv' := [(2, .int (nI (w + 20))), (3, .int (nI (rs / 2))), (0, .int (nI tb)), (1, .int (nI r))]) hx hb dX5_hundredthsBy_56 hl (k := 3) rfl (nI_add w 20) (by decide) rfl (fun ls hl => ?_)
              refine lv_goto (tgt := 47) hx hb dX5_hundredthsBy_59 (by decide) ?_
              exact ih47 (w + 20) (rs / 2) _ _ _ (by omega) (by have h5 := sp_hv_32 (r := rs) (by omega) (by omega); omega) (by omega) (by omega) hP hD hS (lv_sub hl [2, 3, 0, 1] rfl)
        exact hloop47 (_ + 1) i0 r _ _ _ (hr) (rfl) (by omega) (Nat.lt_succ_self _) hP hD hS (lv_sub hl [2, 3, 1, 0] rfl)
      refine lv_iload_n hx hb dX5_hundredthsBy_34 rfl (lv_at hl 1 rfl) ?_
      refine lv_if_ne (tgt := 42) hx hb dX5_hundredthsBy_35 (by decide) (fun c3 => ?_) (fun c3 => ?_)
      · have c3 := mt (sp_z_eq (by omega)).mpr c3
        refine lv_bipush (v := nI 20) hx hb dX5_hundredthsBy_42 (by decide) ?_
        exact hj44 20 _ _ _ (by first | rw [if_pos c3] | rw [if_neg c3]) hP hD hS (lv_sub hl [0, 1] rfl)
      · have c3 := (sp_z_eq (by omega)).mp c3
        refine lv_iconst (v := nI 0) hx hb dX5_hundredthsBy_38 (by decide) ?_
        refine lv_goto (tgt := 44) hx hb dX5_hundredthsBy_39 (by decide) ?_
        exact hj44 0 _ _ _ (by first | rw [if_pos c3] | rw [if_neg c3]) hP hD hS (lv_sub hl [0, 1] rfl)
    · have c2 := (nI_eq (by omega) (by omega)).mp c2
      refine lv_iload_n hx hb dX5_hundredthsBy_18 rfl (lv_at hl 1 rfl) ?_
      refine lv_bipush (v := nI 10) hx hb dX5_hundredthsBy_19 (by decide) ?_
      refine lv_icmp_le (tgt := 29) hx hb dX5_hundredthsBy_21 (by decide) (fun c4 => ?_) (fun c4 => ?_)
      · have c4 := (nI_leI (by omega) (by omega)).mp c4
        refine lv_bipush (v := nI 10) hx hb dX5_hundredthsBy_29 (by decide) ?_
        refine lv_iload_n hx hb dX5_hundredthsBy_31 rfl (lv_at hl 1 rfl) ?_
        refine lv_imul hx hb dX5_hundredthsBy_32 ?_
        refine sp_top (y := nI (10 * r)) (sp_mul _ _) ?_
        exact hend _ _ _ _ _ () dX5_hundredthsBy_33 (by unfold sp_pct; rw [if_neg c1, if_pos c2]; split <;> first | rfl | omega | (congr 1; omega)) hP hD hS
      · have c4 := mt (nI_leI (by omega) (by omega)).mpr c4
        refine lv_bipush (v := nI 100) hx hb dX5_hundredthsBy_24 (by decide) ?_
        refine lv_goto (tgt := 33) hx hb dX5_hundredthsBy_26 (by decide) ?_
        exact hend _ _ _ _ _ () dX5_hundredthsBy_33 (by unfold sp_pct; rw [if_neg c1, if_pos c2]; split <;> first | rfl | omega | (congr 1; omega)) hP hD hS
  · have c1 := (sp_z_eq (by omega)).mp c1
    refine lv_bipush (v := nI 100) hx hb dX5_hundredthsBy_4 (by decide) ?_
    refine lv_iload_n hx hb dX5_hundredthsBy_6 rfl (lv_at hl 1 rfl) ?_
    refine lv_imul hx hb dX5_hundredthsBy_7 ?_
    refine sp_top (y := nI (100 * r)) (sp_mul _ _) ?_
    refine lv_iload_n hx hb dX5_hundredthsBy_8 rfl (lv_at hl 1 rfl) ?_
    refine lv_iconst (v := nI 4) hx hb dX5_hundredthsBy_9 (by decide) ?_
    refine lv_iadd hx hb dX5_hundredthsBy_10 ?_
    refine sp_top (y := nI (r + 4)) (nI_add _ _) ?_
    refine lv_idiv hx hb dX5_hundredthsBy_11 (sp_ne (by omega) (by omega)) ?_
    refine sp_top (y := nI (sp_pct tb r)) (by rw [sp_div (by omega) (by omega) (by omega)]; unfold sp_pct; rw [if_pos c1]) ?_
    exact hend _ _ _ _ _ () dX5_hundredthsBy_12 (rfl) hP hD hS

set_option maxHeartbeats 4000000 in
set_option maxRecDepth 100000 in
theorem c_X5_strength (l : Launch) (g : sp_G) (a : sp_A9) (v : sp_V) (t : sp_T) (hM : sp_Rm v.1 t) (hI : sp_I t) (i : Nat) (hi : i < tn t) : sp_CI l g yX5_strength wsX5_strength ({ frames := 2, cells := 0, slots := 0, locals := 43 }) [.ref a.1, .int (nI i)] (mdW g a v) (fun z (_ : Unit) => z = nI (sp_str t i)) (fun _ => mdW g a v) := by
  refine sp_CI.of (cc := cX5_strength) (maxL := 3) (by decide) rfl (Nat.le_of_ble_eq_true rfl) ?_
  intro p e s m below meth c Q A ls SF hK hP hD hA hl hend
  have hx := SF.1
  have hb := SF.2.1
  have hown : s.vm.findClass RX5 = some m.cls := SF.2.2.2.1
  have hts := SF.2.2.2.2
  have hS : va_S A s.heap s.heap [] := va_S.rf
  have inX5 : ∀ w ∈ wsX50, w ∈ wsX5_strength := fun w h => List.mem_cons_of_mem _ (List.mem_append_right _ h)
  have hl : lv_has ls 3 [(0, .ref a.1), (1, .int (nI i))] := hl
  have hn8 := hI.n
  refine lv_aload_n hx hb dX5_strength_0 rfl (lv_at hl 0 rfl) ?_
  refine lv_iload_n hx hb dX5_strength_1 rfl (lv_at hl 1 rfl) ?_
  refine sp_vi0 (n := 1) SF hK hA (c_X5_age l g a v t hM hI i hi) gX5_strength_X5_age rfl rfl rfl (by decide +kernel) rfl ⟨Nat.le_of_ble_eq_true rfl, Nat.le_of_ble_eq_true rfl⟩ 5 0 rfl rfl hP hD hS hl.1 rfl (Nat.le_of_ble_eq_true rfl) dX5_strength_2 (fun r9 u9 H locs w1 hP hD hS => ?_)
  subst w1
  have hP : va_P g.1 vwCl (mdW g a v) H := hP
  have hD : va_D A (mdW g a v) := hD
  refine lv_bipush (v := nI 10) hx hb dX5_strength_5 (by decide) ?_
  refine lv_aload_n hx hb dX5_strength_7 rfl (lv_at hl 0 rfl) ?_
  refine lv_iload_n hx hb dX5_strength_8 rfl (lv_at hl 1 rfl) ?_
  refine lv_iconst (v := nI 1) hx hb dX5_strength_9 (by decide) ?_
  refine sp_vi0 (n := 2) SF hK hA (c_X5_of l g a v i 1 (by omega) (by omega)) gX5_strength_X5_of rfl rfl rfl (by decide +kernel) rfl ⟨Nat.le_of_ble_eq_true rfl, Nat.le_of_ble_eq_true rfl⟩ 5 0 rfl rfl hP hD hS hl.1 rfl (Nat.le_of_ble_eq_true rfl) dX5_strength_10 (fun r9 u9 H locs w2 hP hD hS => ?_)
  subst w2
  refine sp_top (y := nI (tsl t i)) (hM.sl hi) ?_
  have hP : va_P g.1 vwCl (mdW g a v) H := hP
  have hD : va_D A (mdW g a v) := hD
  refine lv_isub hx hb dX5_strength_13 ?_
  refine sp_top (y := nI (10 - tsl t i)) (sp_sub (Nat.le_trans (hI.sl hi) (by omega))) ?_
  refine lv_imul hx hb dX5_strength_14 ?_
  refine sp_top (y := nI ((sp_age t i) * (10 - tsl t i))) (sp_mul _ _) ?_
  refine lv_bipush (v := nI 10) hx hb dX5_strength_15 (by decide) ?_
  have hag := sp_age_le hI i
  have hm1 : sp_age t i * (10 - tsl t i) ≤ 200000 * 10 := Nat.mul_le_mul hag (by omega)
  refine lv_idiv hx hb dX5_strength_17 (sp_ne (by omega) (by omega)) ?_
  refine sp_top (y := nI (sp_rip t i)) (sp_div (by omega) (by omega) (by omega)) ?_
  refine lv_istore_n (lv' := [(2, .int (nI (sp_rip t i))), (0, .ref a.1), (1, .int (nI i))]) hx hb dX5_strength_18 rfl hl (by decide) rfl (fun ls hl => ?_)
  refine lv_aload_n hx hb dX5_strength_19 rfl (lv_at hl 1 rfl) ?_
  refine va_get (D := g.1) (ci := 5) (v := .ref a.2.1) (C := RX5) (T := TX5) (N := 11) hx hb hts inX5 hown hK.1 hP 0 rfl rfl 0 (by decide) (hts _ (List.mem_of_getElem? (i := 1) rfl)) (fun _ h9 => h9) rfl dX5_strength_20 ?_
  refine lv_iconst (v := nI 3) hx hb dX5_strength_23 (by decide) ?_
  refine va_iald hx hb hK.1 hP 1 0 rfl rfl (vp_in_nI (by omega) (by omega)) dX5_strength_24 ?_
  refine sp_top (y := v.1 3) (congrArg v.1 (sp_c8 (k := 3) (by omega))) ?_
  refine sp_top (y := nI (tm t)) (hM.m) ?_
  refine lv_aload_n hx hb dX5_strength_25 rfl (lv_at hl 1 rfl) ?_
  refine va_get (D := g.1) (ci := 5) (v := .ref a.2.1) (C := RX5) (T := TX5) (N := 11) hx hb hts inX5 hown hK.1 hP 0 rfl rfl 0 (by decide) (hts _ (List.mem_of_getElem? (i := 1) rfl)) (fun _ h9 => h9) rfl dX5_strength_26 ?_
  refine lv_iconst (v := nI 4) hx hb dX5_strength_29 (by decide) ?_
  refine va_iald hx hb hK.1 hP 1 0 rfl rfl (vp_in_nI (by omega) (by omega)) dX5_strength_30 ?_
  refine sp_top (y := v.1 4) (congrArg v.1 (sp_c8 (k := 4) (by omega))) ?_
  refine sp_top (y := nI (tt t)) (hM.t) ?_
  refine lv_iload_n hx hb dX5_strength_31 rfl (lv_at hl 0 rfl) ?_
  refine sp_si (n := 2) (wc := []) (wr := (mdW g a v)) SF hK hA (c_X5_hundredthsBy l g (tt t) (sp_rip t i) hI.t (Nat.le_trans (sp_rip_le hI i) (by omega))) gX5_strength_X5_hundredthsBy rfl rfl rfl (by decide +kernel) rfl ⟨Nat.le_of_ble_eq_true rfl, Nat.le_of_ble_eq_true rfl⟩ hP hD hS hl.1 rfl (Nat.le_of_ble_eq_true rfl) dX5_strength_32 (fun r9 u9 H locs w3 hP hD hS => ?_)
  subst w3
  have hP : va_P g.1 vwCl (mdW g a v) H := hP
  have hD : va_D A (mdW g a v) := hD
  refine lv_imul hx hb dX5_strength_35 ?_
  refine sp_top (y := nI ((tm t) * (sp_pct (tt t) (sp_rip t i)))) (sp_mul _ _) ?_
  refine lv_bipush (v := nI 100) hx hb dX5_strength_36 (by decide) ?_
  have hm2 : tm t * sp_pct (tt t) (sp_rip t i) ≤ 400 * 100 := Nat.mul_le_mul hI.m (sp_pct_le _ _)
  refine lv_idiv hx hb dX5_strength_38 (sp_ne (by omega) (by omega)) ?_
  refine sp_top (y := nI (sp_str t i)) (sp_div (by omega) (by omega) (by omega)) ?_
  exact hend _ _ _ _ _ () dX5_strength_39 (rfl) hP hD hS

set_option maxHeartbeats 4000000 in
set_option maxRecDepth 100000 in
theorem c_X5_isPropped (l : Launch) (g : sp_G) (a : sp_A9) (v : sp_V) (t : sp_T) (hM : sp_Rm v.1 t) (hI : sp_I t) (i : Nat) (hi : i < tn t) : sp_CB l g yX5_isPropped wsX5_isPropped ({ frames := 1, cells := 0, slots := 0, locals := 22 }) [.ref a.1, .int (nI i)] (mdW g a v) (fun b (_ : Unit) => b = sp_pp t i) (fun _ => mdW g a v) := by
  refine sp_CB.of (cc := cX5_isPropped) (maxL := 2) (by decide) rfl (Nat.le_of_ble_eq_true rfl) ?_
  intro p e s m below meth c Q A ls SF hK hP hD hA hl hend
  have hx := SF.1
  have hb := SF.2.1
  have hown : s.vm.findClass RX5 = some m.cls := SF.2.2.2.1
  have hts := SF.2.2.2.2
  have hS : va_S A s.heap s.heap [] := va_S.rf
  have inX5 : ∀ w ∈ wsX50, w ∈ wsX5_isPropped := fun w h => List.mem_cons_of_mem _ (List.mem_append_right _ h)
  have hl : lv_has ls 2 [(0, .ref a.1), (1, .int (nI i))] := hl
  have hn8 := hI.n
  refine lv_aload_n hx hb dX5_isPropped_0 rfl (lv_at hl 0 rfl) ?_
  refine lv_iload_n hx hb dX5_isPropped_1 rfl (lv_at hl 1 rfl) ?_
  refine lv_iconst (v := nI 3) hx hb dX5_isPropped_2 (by decide) ?_
  refine sp_vi0 (n := 2) SF hK hA (c_X5_of l g a v i 3 (by omega) (by omega)) gX5_isPropped_X5_of rfl rfl rfl (by decide +kernel) rfl ⟨Nat.le_of_ble_eq_true rfl, Nat.le_of_ble_eq_true rfl⟩ 5 0 rfl rfl hP hD hS hl.1 rfl (Nat.le_of_ble_eq_true rfl) dX5_isPropped_3 (fun r9 u9 H locs w1 hP hD hS => ?_)
  subst w1
  refine sp_top (y := bI (sp_pp t i)) (hM.pp hi) ?_
  have hP : va_P g.1 vwCl (mdW g a v) H := hP
  have hD : va_D A (mdW g a v) := hD
  refine lv_iconst (v := nI 1) hx hb dX5_isPropped_6 (by decide) ?_
  refine lv_icmp_ne (tgt := 14) hx hb dX5_isPropped_7 (by decide) (fun c1 => ?_) (fun c1 => ?_)
  · refine lv_iconst (v := bI false) hx hb dX5_isPropped_14 (by decide) ?_
    exact hend _ _ _ _ false () dX5_isPropped_15 (by first | exact (sp_bI1 c1).symm | exact (sp_bI0 c1).symm) hP hD hS
  · refine lv_iconst (v := bI true) hx hb dX5_isPropped_10 (by decide) ?_
    refine lv_goto (tgt := 15) hx hb dX5_isPropped_11 (by decide) ?_
    exact hend _ _ _ _ true () dX5_isPropped_15 (by first | exact (sp_bI1 c1).symm | exact (sp_bI0 c1).symm) hP hD hS

set_option maxHeartbeats 4000000 in
set_option maxRecDepth 100000 in
theorem c_X5_lowest (l : Launch) (g : sp_G) (a : sp_A9) (v : sp_V) (t : sp_T) (hM : sp_Rm v.1 t) (hI : sp_I t) (i : Nat) (hi : i < tn t) : sp_CI l g yX5_lowest wsX5_lowest ({ frames := 2, cells := 0, slots := 0, locals := 43 }) [.ref a.1, .int (nI i)] (mdW g a v) (fun z (_ : Unit) => z = nI (sp_low t i)) (fun _ => mdW g a v) := by
  refine sp_CI.of (cc := cX5_lowest) (maxL := 3) (by decide) rfl (Nat.le_of_ble_eq_true rfl) ?_
  intro p e s m below meth c Q A ls SF hK hP hD hA hl hend
  have hx := SF.1
  have hb := SF.2.1
  have hown : s.vm.findClass RX5 = some m.cls := SF.2.2.2.1
  have hts := SF.2.2.2.2
  have hS : va_S A s.heap s.heap [] := va_S.rf
  have inX5 : ∀ w ∈ wsX50, w ∈ wsX5_lowest := fun w h => List.mem_cons_of_mem _ (List.mem_append_right _ h)
  have hl : lv_has ls 3 [(0, .ref a.1), (1, .int (nI i))] := hl
  have hn8 := hI.n
  refine lv_iload_n hx hb dX5_lowest_0 rfl (lv_at hl 1 rfl) ?_
  refine lv_istore_n (lv' := [(2, .int (nI i)), (0, .ref a.1), (1, .int (nI i))]) hx hb dX5_lowest_1 rfl hl (by decide) rfl (fun ls hl => ?_)
  have hloop2 : ∀ (n2 : Nat) (k : Nat) (H : Heap) (locs : List Loc) (ls : Array Slot), (k ≤ i) → (sp_low t k = sp_low t i) → k < n2 → va_P g.1 vwCl (mdW g a v) H → va_D A (mdW g a v) → va_S A s.heap H locs → lv_has ls 3 [(0, .ref a.1), (1, .int (nI i)), (2, .int (nI k))] → W p l e ({ frames := 2, cells := 0, slots := 0, locals := 43 }) s m ([.ref a.1, .int (nI i)] : List Value).toArray below meth c H locs 0 0 Q (F0 m 2 ls []) := by
    intro n2
    induction n2 with
    | zero =>
      intro k H locs ls hk hlow h9
      exact absurd h9 (Nat.not_lt_zero _)
    | succ n2 ih2 =>
      intro k H locs ls hk hlow hm2 hP hD hS hl
      refine lv_iload_n hx hb dX5_lowest_2 rfl (lv_at hl 2 rfl) ?_
      refine lv_if_le (tgt := 20) hx hb dX5_lowest_3 (by decide) (fun c1 => ?_) (fun c1 => ?_)
      · have c1 := (sp_z_le (by omega)).mp c1
        refine lv_iload_n hx hb dX5_lowest_20 rfl (lv_at hl 2 rfl) ?_
        exact hend _ _ _ _ _ () dX5_lowest_21 (by first | (rw [← hlow, hlow2]) | (rw [← hlow, show k = 0 by omega]; rfl)) hP hD hS
      · have c1 := mt (sp_z_le (by omega)).mpr c1
        obtain ⟨j, rfl⟩ : ∃ j, k = j + 1 := ⟨k - 1, by omega⟩
        refine lv_aload_n hx hb dX5_lowest_6 rfl (lv_at hl 0 rfl) ?_
        refine lv_iload_n hx hb dX5_lowest_7 rfl (lv_at hl 2 rfl) ?_
        refine sp_vi0 (n := 1) SF hK hA (c_X5_isPropped l g a v t hM hI (j + 1) (by omega)) gX5_lowest_X5_isPropped rfl rfl rfl (by decide +kernel) rfl ⟨Nat.le_of_ble_eq_true rfl, Nat.le_of_ble_eq_true rfl⟩ 5 0 rfl rfl hP hD hS hl.1 rfl (Nat.le_of_ble_eq_true rfl) dX5_lowest_8 (fun r9 u9 H locs hbb hP hD hS => ?_)
        obtain ⟨bb, rfl, hbb⟩ := hbb
        have hP : va_P g.1 vwCl (mdW g a v) H := hP
        have hD : va_D A (mdW g a v) := hD
        refine lv_if_eq (tgt := 20) hx hb dX5_lowest_11 (by decide) (fun c2 => ?_) (fun c2 => ?_)
        · have c2 := sp_b0.mp c2
          have hlow2 : sp_low t (j + 1) = j + 1 := by show lowF _ (j + 1) = j + 1; simp only [lowF]; rw [← hbb, c2]; rfl
          refine lv_iload_n hx hb dX5_lowest_20 rfl (lv_at hl 2 rfl) ?_
          exact hend _ _ _ _ _ () dX5_lowest_21 (by first | (rw [← hlow, hlow2]) | (rw [← hlow, show k = 0 by omega]; rfl)) hP hD hS
        · have c2 := sp_b0n.mp c2
          have hlow2 : sp_low t (j + 1) = sp_low t j := by show lowF _ (j + 1) = lowF _ j; simp only [lowF]; rw [← hbb, c2]; rfl
          refine lv_iinc (v := nI j) (lv' := [(2, .int (nI j)), (0, .ref a.1), (1, .int (nI i))]) hx hb dX5_lowest_14 hl (k := 2) rfl (sp_dec j) (by decide) rfl (fun ls hl => ?_)
          refine lv_goto (tgt := 2) hx hb dX5_lowest_17 (by decide) ?_
          exact ih2 j _ _ _ (by omega) (hlow2.symm.trans hlow) (by omega) hP hD hS (lv_sub hl [1, 2, 0] rfl)
  exact hloop2 (_ + 1) i _ _ _ (Nat.le_refl _) (rfl) (Nat.lt_succ_self _) hP hD hS (lv_sub hl [1, 2, 0] rfl)

set_option maxHeartbeats 4000000 in
set_option maxRecDepth 100000 in
theorem c_X5_highest (l : Launch) (g : sp_G) (a : sp_A9) (v : sp_V) (t : sp_T) (hM : sp_Rm v.1 t) (hI : sp_I t) (i : Nat) (hi : i < tn t) : sp_CI l g yX5_highest wsX5_highest ({ frames := 2, cells := 0, slots := 0, locals := 43 }) [.ref a.1, .int (nI i)] (mdW g a v) (fun z (_ : Unit) => z = nI (sp_hi t i)) (fun _ => mdW g a v) := by
  refine sp_CI.of (cc := cX5_highest) (maxL := 3) (by decide) rfl (Nat.le_of_ble_eq_true rfl) ?_
  intro p e s m below meth c Q A ls SF hK hP hD hA hl hend
  have hx := SF.1
  have hb := SF.2.1
  have hown : s.vm.findClass RX5 = some m.cls := SF.2.2.2.1
  have hts := SF.2.2.2.2
  have hS : va_S A s.heap s.heap [] := va_S.rf
  have inX5 : ∀ w ∈ wsX50, w ∈ wsX5_highest := fun w h => List.mem_cons_of_mem _ (List.mem_append_right _ h)
  have hl : lv_has ls 3 [(0, .ref a.1), (1, .int (nI i))] := hl
  have hn8 := hI.n
  refine lv_iload_n hx hb dX5_highest_0 rfl (lv_at hl 1 rfl) ?_
  refine lv_istore_n (lv' := [(2, .int (nI i)), (0, .ref a.1), (1, .int (nI i))]) hx hb dX5_highest_1 rfl hl (by decide) rfl (fun ls hl => ?_)
  have hloop2 : ∀ (n2 : Nat) (k : Nat) (H : Heap) (locs : List Loc) (ls : Array Slot), (k < tn t) → (sp_hi t k = sp_hi t i) → tn t - k < n2 → va_P g.1 vwCl (mdW g a v) H → va_D A (mdW g a v) → va_S A s.heap H locs → lv_has ls 3 [(0, .ref a.1), (1, .int (nI i)), (2, .int (nI k))] → W p l e ({ frames := 2, cells := 0, slots := 0, locals := 43 }) s m ([.ref a.1, .int (nI i)] : List Value).toArray below meth c H locs 0 0 Q (F0 m 2 ls []) := by
    intro n2
    induction n2 with
    | zero =>
      intro k H locs ls hk hh h9
      exact absurd h9 (Nat.not_lt_zero _)
    | succ n2 ih2 =>
      intro k H locs ls hk hh hm2 hP hD hS hl
      refine lv_iload_n hx hb dX5_highest_2 rfl (lv_at hl 2 rfl) ?_
      refine lv_iconst (v := nI 1) hx hb dX5_highest_3 (by decide) ?_
      refine lv_iadd hx hb dX5_highest_4 ?_
      refine sp_top (y := nI (k + 1)) (nI_add _ _) ?_
      refine lv_aload_n hx hb dX5_highest_5 rfl (lv_at hl 0 rfl) ?_
      refine va_get (D := g.1) (ci := 5) (v := .ref a.2.1) (C := RX5) (T := TX5) (N := 11) hx hb hts inX5 hown hK.1 hP 0 rfl rfl 0 (by decide) (hts _ (List.mem_of_getElem? (i := 1) rfl)) (fun _ h9 => h9) rfl dX5_highest_6 ?_
      refine lv_iconst (v := nI 1) hx hb dX5_highest_9 (by decide) ?_
      refine va_iald hx hb hK.1 hP 1 0 rfl rfl (vp_in_nI (by omega) (by omega)) dX5_highest_10 ?_
      refine sp_top (y := v.1 1) (congrArg v.1 (sp_c8 (k := 1) (by omega))) ?_
      refine sp_top (y := nI (tn t)) (hM.n) ?_
      refine lv_icmp_ge (tgt := 30) hx hb dX5_highest_11 (by decide) (fun c1 => ?_) (fun c1 => ?_)
      · have c1 := (nI_leI (by omega) (by omega)).mp c1
        refine lv_iload_n hx hb dX5_highest_30 rfl (lv_at hl 2 rfl) ?_
        exact hend _ _ _ _ _ () dX5_highest_31 (by first | rw [← hh, sp_hi_end (Or.inl c1)] | rw [← hh, sp_hi_end (Or.inr hbb)]) hP hD hS
      · have c1 := mt (nI_leI (by omega) (by omega)).mpr c1
        refine lv_aload_n hx hb dX5_highest_14 rfl (lv_at hl 0 rfl) ?_
        refine lv_iload_n hx hb dX5_highest_15 rfl (lv_at hl 2 rfl) ?_
        refine lv_iconst (v := nI 1) hx hb dX5_highest_16 (by decide) ?_
        refine lv_iadd hx hb dX5_highest_17 ?_
        refine sp_top (y := nI (k + 1)) (nI_add _ _) ?_
        refine sp_vi0 (n := 1) SF hK hA (c_X5_isPropped l g a v t hM hI (k + 1) (by omega)) gX5_highest_X5_isPropped rfl rfl rfl (by decide +kernel) rfl ⟨Nat.le_of_ble_eq_true rfl, Nat.le_of_ble_eq_true rfl⟩ 5 0 rfl rfl hP hD hS hl.1 rfl (Nat.le_of_ble_eq_true rfl) dX5_highest_18 (fun r9 u9 H locs hbb hP hD hS => ?_)
        obtain ⟨bb, rfl, hbb⟩ := hbb
        have hP : va_P g.1 vwCl (mdW g a v) H := hP
        have hD : va_D A (mdW g a v) := hD
        refine lv_if_eq (tgt := 30) hx hb dX5_highest_21 (by decide) (fun c2 => ?_) (fun c2 => ?_)
        · have c2 := sp_b0.mp c2
          rw [c2] at hbb; have hbb := hbb.symm
          refine lv_iload_n hx hb dX5_highest_30 rfl (lv_at hl 2 rfl) ?_
          exact hend _ _ _ _ _ () dX5_highest_31 (by first | rw [← hh, sp_hi_end (Or.inl c1)] | rw [← hh, sp_hi_end (Or.inr hbb)]) hP hD hS
        · have c2 := sp_b0n.mp c2
          rw [c2] at hbb; have hbb := hbb.symm
          refine lv_iinc (v := nI (k + 1)) (lv' := [(2, .int (nI (k + 1))), (0, .ref a.1), (1, .int (nI i))]) hx hb dX5_highest_24 hl (k := 2) rfl (nI_1 k) (by decide) rfl (fun ls hl => ?_)
          refine lv_goto (tgt := 2) hx hb dX5_highest_27 (by decide) ?_
          exact ih2 (k + 1) _ _ _ (by omega) ((sp_hi_step (by omega) hbb).symm.trans hh) (by omega) hP hD hS (lv_sub hl [1, 2, 0] rfl)
  exact hloop2 (_ + 1) i _ _ _ (hi) (rfl) (Nat.lt_succ_self _) hP hD hS (lv_sub hl [1, 2, 0] rfl)

set_option maxHeartbeats 4000000 in
set_option maxRecDepth 100000 in
theorem c_X5_isGrounded (l : Launch) (g : sp_G) (a : sp_A9) (v : sp_V) (t : sp_T) (hM : sp_Rm v.1 t) (hI : sp_I t) (i : Nat) (hi : i < tn t) : sp_CB l g yX5_isGrounded wsX5_isGrounded ({ frames := 3, cells := 0, slots := 0, locals := 65 }) [.ref a.1, .int (nI i)] (mdW g a v) (fun b (_ : Unit) => b = sp_gr t i) (fun _ => mdW g a v) := by
  refine sp_CB.of (cc := cX5_isGrounded) (maxL := 2) (by decide) rfl (Nat.le_of_ble_eq_true rfl) ?_
  intro p e s m below meth c Q A ls SF hK hP hD hA hl hend
  have hx := SF.1
  have hb := SF.2.1
  have hown : s.vm.findClass RX5 = some m.cls := SF.2.2.2.1
  have hts := SF.2.2.2.2
  have hS : va_S A s.heap s.heap [] := va_S.rf
  have inX5 : ∀ w ∈ wsX50, w ∈ wsX5_isGrounded := fun w h => List.mem_cons_of_mem _ (List.mem_append_right _ h)
  have hl : lv_has ls 2 [(0, .ref a.1), (1, .int (nI i))] := hl
  have hn8 := hI.n
  refine lv_aload_n hx hb dX5_isGrounded_0 rfl (lv_at hl 0 rfl) ?_
  refine lv_iload_n hx hb dX5_isGrounded_1 rfl (lv_at hl 1 rfl) ?_
  refine sp_vi0 (n := 1) SF hK hA (c_X5_lowest l g a v t hM hI i hi) gX5_isGrounded_X5_lowest rfl rfl rfl (by decide +kernel) rfl ⟨Nat.le_of_ble_eq_true rfl, Nat.le_of_ble_eq_true rfl⟩ 5 0 rfl rfl hP hD hS hl.1 rfl (Nat.le_of_ble_eq_true rfl) dX5_isGrounded_2 (fun r9 u9 H locs w1 hP hD hS => ?_)
  subst w1
  have hP : va_P g.1 vwCl (mdW g a v) H := hP
  have hD : va_D A (mdW g a v) := hD
  have hlw := sp_low_le t i
  refine lv_if_ne (tgt := 20) hx hb dX5_isGrounded_5 (by decide) (fun c1 => ?_) (fun c1 => ?_)
  · have c1 := mt (sp_z_eq (by omega)).mpr c1
    refine lv_iconst (v := bI false) hx hb dX5_isGrounded_20 (by decide) ?_
    exact hend _ _ _ _ false () dX5_isGrounded_21 (by first | (unfold sp_gr; rw [← hbb, c2, c1]; rfl) | (unfold sp_gr; rw [decide_eq_false c1]; rfl)) hP hD hS
  · have c1 := (sp_z_eq (by omega)).mp c1
    refine lv_aload_n hx hb dX5_isGrounded_8 rfl (lv_at hl 0 rfl) ?_
    refine lv_iconst (v := nI 0) hx hb dX5_isGrounded_9 (by decide) ?_
    refine sp_vi0 (n := 1) SF hK hA (c_X5_isPropped l g a v t hM hI 0 (by omega)) gX5_isGrounded_X5_isPropped rfl rfl rfl (by decide +kernel) rfl ⟨Nat.le_of_ble_eq_true rfl, Nat.le_of_ble_eq_true rfl⟩ 5 0 rfl rfl hP hD hS hl.1 rfl (Nat.le_of_ble_eq_true rfl) dX5_isGrounded_10 (fun r9 u9 H locs hbb hP hD hS => ?_)
    obtain ⟨bb, rfl, hbb⟩ := hbb
    have hP : va_P g.1 vwCl (mdW g a v) H := hP
    have hD : va_D A (mdW g a v) := hD
    refine lv_if_eq (tgt := 20) hx hb dX5_isGrounded_13 (by decide) (fun c2 => ?_) (fun c2 => ?_)
    · have c2 := sp_b0.mp c2
      refine lv_iconst (v := bI false) hx hb dX5_isGrounded_20 (by decide) ?_
      exact hend _ _ _ _ false () dX5_isGrounded_21 (by first | (unfold sp_gr; rw [← hbb, c2, c1]; rfl) | (unfold sp_gr; rw [decide_eq_false c1]; rfl)) hP hD hS
    · have c2 := sp_b0n.mp c2
      refine lv_iconst (v := bI true) hx hb dX5_isGrounded_16 (by decide) ?_
      refine lv_goto (tgt := 21) hx hb dX5_isGrounded_17 (by decide) ?_
      exact hend _ _ _ _ true () dX5_isGrounded_21 (by first | (unfold sp_gr; rw [← hbb, c2, c1]; rfl) | (unfold sp_gr; rw [decide_eq_false c1]; rfl)) hP hD hS

set_option maxHeartbeats 4000000 in
set_option maxRecDepth 100000 in
theorem c_X5_force (l : Launch) (g : sp_G) (a : sp_A9) (v : sp_V) (t : sp_T) (hM : sp_Rm v.1 t) (hI : sp_I t) (i : Nat) (hi : i < tn t) : sp_CI l g yX5_force wsX5_force ({ frames := 3, cells := 0, slots := 0, locals := 65 }) [.ref a.1, .int (nI i)] (mdW g a v) (fun z (_ : Unit) => z = sp_frc t i) (fun _ => mdW g a v) := by
  refine sp_CI.of (cc := cX5_force) (maxL := 4) (by decide) rfl (Nat.le_of_ble_eq_true rfl) ?_
  intro p e s m below meth c Q A ls SF hK hP hD hA hl hend
  have hx := SF.1
  have hb := SF.2.1
  have hown : s.vm.findClass RX5 = some m.cls := SF.2.2.2.1
  have hts := SF.2.2.2.2
  have hS : va_S A s.heap s.heap [] := va_S.rf
  have inX5 : ∀ w ∈ wsX50, w ∈ wsX5_force := fun w h => List.mem_cons_of_mem _ (List.mem_append_right _ h)
  have hl : lv_has ls 4 [(0, .ref a.1), (1, .int (nI i))] := hl
  have hn8 := hI.n
  refine lv_iconst (v := nI 0) hx hb dX5_force_0 (by decide) ?_
  refine lv_istore_n (lv' := [(2, .int (nI 0)), (0, .ref a.1), (1, .int (nI i))]) hx hb dX5_force_1 rfl hl (by decide) rfl (fun ls hl => ?_)
  refine lv_iload_n hx hb dX5_force_2 rfl (lv_at hl 2 rfl) ?_
  refine lv_istore_n (lv' := [(3, .int (nI i)), (2, .int (nI 0)), (0, .ref a.1), (1, .int (nI i))]) hx hb dX5_force_3 rfl hl (by decide) rfl (fun ls hl => ?_)
  have hloop4 : ∀ (n4 : Nat) (k : Nat) (z : Int32) (H : Heap) (locs : List Loc) (ls : Array Slot), (i ≤ k) → (k ≤ sp_hi t i + 1) → ((if sp_pp t i then lp (sp_frs t) (sp_hi t i + 1 - k) k z else z) = sp_frc t i) → sp_hi t i + 1 - k < n4 → va_P g.1 vwCl (mdW g a v) H → va_D A (mdW g a v) → va_S A s.heap H locs → lv_has ls 4 [(0, .ref a.1), (1, .int (nI i)), (2, .int z), (3, .int (nI k))] → W p l e ({ frames := 3, cells := 0, slots := 0, locals := 65 }) s m ([.ref a.1, .int (nI i)] : List Value).toArray below meth c H locs 0 0 Q (F0 m 4 ls []) := by
    intro n4
    induction n4 with
    | zero =>
      intro k z H locs ls hk1 hk2 hh h9
      exact absurd h9 (Nat.not_lt_zero _)
    | succ n4 ih4 =>
      intro k z H locs ls hk1 hk2 hh hm4 hP hD hS hl
      have hhl := sp_hi_lt hi
      have hhg := sp_le_hi t i
      refine lv_iload_n hx hb dX5_force_4 rfl (lv_at hl 3 rfl) ?_
      refine lv_aload_n hx hb dX5_force_5 rfl (lv_at hl 0 rfl) ?_
      refine lv_iload_n hx hb dX5_force_6 rfl (lv_at hl 1 rfl) ?_
      refine sp_vi0 (n := 1) SF hK hA (c_X5_highest l g a v t hM hI i hi) gX5_force_X5_highest rfl rfl rfl (by decide +kernel) rfl ⟨Nat.le_of_ble_eq_true rfl, Nat.le_of_ble_eq_true rfl⟩ 5 0 rfl rfl hP hD hS hl.1 rfl (Nat.le_of_ble_eq_true rfl) dX5_force_7 (fun r9 u9 H locs w1 hP hD hS => ?_)
      subst w1
      have hP : va_P g.1 vwCl (mdW g a v) H := hP
      have hD : va_D A (mdW g a v) := hD
      refine lv_icmp_gt (tgt := 43) hx hb dX5_force_10 (by decide) (fun c1 => ?_) (fun c1 => ?_)
      · have c1 := (nI_ltI (by omega) (by omega)).mp c1
        refine lv_iload_n hx hb dX5_force_43 rfl (lv_at hl 2 rfl) ?_
        exact hend _ _ _ _ _ () dX5_force_44 (by first | exact sp_frc_end (Or.inl (by omega)) hh | exact sp_frc_end (Or.inr hbb) hh) hP hD hS
      · have c1 := mt (nI_ltI (by omega) (by omega)).mpr c1
        refine lv_aload_n hx hb dX5_force_13 rfl (lv_at hl 0 rfl) ?_
        refine lv_iload_n hx hb dX5_force_14 rfl (lv_at hl 1 rfl) ?_
        refine sp_vi0 (n := 1) SF hK hA (c_X5_isPropped l g a v t hM hI i hi) gX5_force_X5_isPropped rfl rfl rfl (by decide +kernel) rfl ⟨Nat.le_of_ble_eq_true rfl, Nat.le_of_ble_eq_true rfl⟩ 5 0 rfl rfl hP hD hS hl.1 rfl (Nat.le_of_ble_eq_true rfl) dX5_force_15 (fun r9 u9 H locs hbb hP hD hS => ?_)
        obtain ⟨bb, rfl, hbb⟩ := hbb
        have hP : va_P g.1 vwCl (mdW g a v) H := hP
        have hD : va_D A (mdW g a v) := hD
        refine lv_if_eq (tgt := 43) hx hb dX5_force_18 (by decide) (fun c2 => ?_) (fun c2 => ?_)
        · have c2 := sp_b0.mp c2
          rw [c2] at hbb; have hbb := hbb.symm
          refine lv_iload_n hx hb dX5_force_43 rfl (lv_at hl 2 rfl) ?_
          exact hend _ _ _ _ _ () dX5_force_44 (by first | exact sp_frc_end (Or.inl (by omega)) hh | exact sp_frc_end (Or.inr hbb) hh) hP hD hS
        · have c2 := sp_b0n.mp c2
          rw [c2] at hbb; have hbb := hbb.symm
          refine lv_iload_n hx hb dX5_force_21 rfl (lv_at hl 2 rfl) ?_
          refine lv_aload_n hx hb dX5_force_22 rfl (lv_at hl 0 rfl) ?_
          refine va_get (D := g.1) (ci := 5) (v := .ref a.2.1) (C := RX5) (T := TX5) (N := 11) hx hb hts inX5 hown hK.1 hP 0 rfl rfl 0 (by decide) (hts _ (List.mem_of_getElem? (i := 1) rfl)) (fun _ h9 => h9) rfl dX5_force_23 ?_
          refine lv_iconst (v := nI 2) hx hb dX5_force_26 (by decide) ?_
          refine va_iald hx hb hK.1 hP 1 0 rfl rfl (vp_in_nI (by omega) (by omega)) dX5_force_27 ?_
          refine sp_top (y := v.1 2) (congrArg v.1 (sp_c8 (k := 2) (by omega))) ?_
          refine sp_top (y := nI (tw t)) (hM.w) ?_
          refine lv_aload_n hx hb dX5_force_28 rfl (lv_at hl 0 rfl) ?_
          refine lv_iload_n hx hb dX5_force_29 rfl (lv_at hl 3 rfl) ?_
          refine lv_iconst (v := nI 2) hx hb dX5_force_30 (by decide) ?_
          refine sp_vi0 (n := 2) SF hK hA (c_X5_of l g a v k 2 (by omega) (by omega)) gX5_force_X5_of rfl rfl rfl (by decide +kernel) rfl ⟨Nat.le_of_ble_eq_true rfl, Nat.le_of_ble_eq_true rfl⟩ 5 0 rfl rfl hP hD hS hl.1 rfl (Nat.le_of_ble_eq_true rfl) dX5_force_31 (fun r9 u9 H locs w2 hP hD hS => ?_)
          subst w2
          refine sp_top (y := tlo t k) (hM.lo (by omega)) ?_
          have hP : va_P g.1 vwCl (mdW g a v) H := hP
          have hD : va_D A (mdW g a v) := hD
          refine lv_isub hx hb dX5_force_34 ?_
          refine lv_iadd hx hb dX5_force_35 ?_
          refine sp_top (y := sp_frs t k z) (rfl) ?_
          refine lv_istore_n (lv' := [(2, .int (sp_frs t k z)), (0, .ref a.1), (1, .int (nI i)), (3, .int (nI k))]) hx hb dX5_force_36 rfl hl (by decide) rfl (fun ls hl => ?_)
          refine lv_iinc (v := nI (k + 1)) (lv' := [(3, .int (nI (k + 1))), (2, .int (sp_frs t k z)), (0, .ref a.1), (1, .int (nI i))]) hx hb dX5_force_37 hl (k := 3) rfl (nI_1 k) (by decide) rfl (fun ls hl => ?_)
          refine lv_goto (tgt := 4) hx hb dX5_force_40 (by decide) ?_
          exact ih4 (k + 1) (sp_frs t k z) _ _ _ (by omega) (by omega) (sp_frc_step (by omega) hbb hh) (by omega) hP hD hS (lv_sub hl [2, 3, 1, 0] rfl)
  exact hloop4 (_ + 1) i (nI 0) _ _ _ (Nat.le_refl _) (by have := sp_le_hi t i; omega) (rfl) (Nat.lt_succ_self _) hP hD hS (lv_sub hl [2, 3, 1, 0] rfl)

set_option maxHeartbeats 4000000 in
set_option maxRecDepth 100000 in
theorem c_X5_weak (l : Launch) (g : sp_G) (a : sp_A9) (v : sp_V) (t : sp_T) (hM : sp_Rm v.1 t) (hI : sp_I t) : sp_CI l g yX5_weak wsX5_weak ({ frames := 3, cells := 0, slots := 0, locals := 65 }) [.ref a.1] (mdW g a v) (fun z (_ : Unit) => z = sp_wk t) (fun _ => mdW g a v) := by
  refine sp_CI.of (cc := cX5_weak) (maxL := 3) (by decide) rfl (Nat.le_of_ble_eq_true rfl) ?_
  intro p e s m below meth c Q A ls SF hK hP hD hA hl hend
  have hx := SF.1
  have hb := SF.2.1
  have hown : s.vm.findClass RX5 = some m.cls := SF.2.2.2.1
  have hts := SF.2.2.2.2
  have hS : va_S A s.heap s.heap [] := va_S.rf
  have inX5 : ∀ w ∈ wsX50, w ∈ wsX5_weak := fun w h => List.mem_cons_of_mem _ (List.mem_append_right _ h)
  have hl : lv_has ls 3 [(0, .ref a.1)] := hl
  have hn8 := hI.n
  refine lv_iconst (v := nI 0) hx hb dX5_weak_0 (by decide) ?_
  refine lv_istore_n (lv' := [(1, .int (nI 0)), (0, .ref a.1)]) hx hb dX5_weak_1 rfl hl (by decide) rfl (fun ls hl => ?_)
  refine lv_iconst (v := nI 0) hx hb dX5_weak_2 (by decide) ?_
  refine lv_istore_n (lv' := [(2, .int (nI 0)), (1, .int (nI 0)), (0, .ref a.1)]) hx hb dX5_weak_3 rfl hl (by decide) rfl (fun ls hl => ?_)
  have hloop4 : ∀ (n4 : Nat) (k : Nat) (z : Int32) (H : Heap) (locs : List Loc) (ls : Array Slot), (k ≤ tn t) → (lp (sp_wks t) (tn t - k) k z = sp_wk t) → tn t - k < n4 → va_P g.1 vwCl (mdW g a v) H → va_D A (mdW g a v) → va_S A s.heap H locs → lv_has ls 3 [(0, .ref a.1), (1, .int z), (2, .int (nI k))] → W p l e ({ frames := 3, cells := 0, slots := 0, locals := 65 }) s m ([.ref a.1] : List Value).toArray below meth c H locs 0 0 Q (F0 m 4 ls []) := by
    intro n4
    induction n4 with
    | zero =>
      intro k z H locs ls hk2 hh h9
      exact absurd h9 (Nat.not_lt_zero _)
    | succ n4 ih4 =>
      intro k z H locs ls hk2 hh hm4 hP hD hS hl
      refine lv_iload_n hx hb dX5_weak_4 rfl (lv_at hl 2 rfl) ?_
      refine lv_aload_n hx hb dX5_weak_5 rfl (lv_at hl 0 rfl) ?_
      refine va_get (D := g.1) (ci := 5) (v := .ref a.2.1) (C := RX5) (T := TX5) (N := 11) hx hb hts inX5 hown hK.1 hP 0 rfl rfl 0 (by decide) (hts _ (List.mem_of_getElem? (i := 1) rfl)) (fun _ h9 => h9) rfl dX5_weak_6 ?_
      refine lv_iconst (v := nI 1) hx hb dX5_weak_9 (by decide) ?_
      refine va_iald hx hb hK.1 hP 1 0 rfl rfl (vp_in_nI (by omega) (by omega)) dX5_weak_10 ?_
      refine sp_top (y := v.1 1) (congrArg v.1 (sp_c8 (k := 1) (by omega))) ?_
      refine sp_top (y := nI (tn t)) (hM.n) ?_
      refine lv_icmp_ge (tgt := 44) hx hb dX5_weak_11 (by decide) (fun c1 => ?_) (fun c1 => ?_)
      · have c1 := (nI_leI (by omega) (by omega)).mp c1
        refine lv_iload_n hx hb dX5_weak_44 rfl (lv_at hl 1 rfl) ?_
        exact hend _ _ _ _ _ () dX5_weak_45 (by rw [← hh, lp_end _ (by omega)]) hP hD hS
      · have c1 := mt (nI_leI (by omega) (by omega)).mpr c1
        refine lv_iload_n hx hb dX5_weak_14 rfl (lv_at hl 1 rfl) ?_
        refine lv_aload_n hx hb dX5_weak_15 rfl (lv_at hl 0 rfl) ?_
        refine lv_iload_n hx hb dX5_weak_16 rfl (lv_at hl 2 rfl) ?_
        refine lv_iconst (v := nI 2) hx hb dX5_weak_17 (by decide) ?_
        refine sp_vi0 (n := 2) SF hK hA (c_X5_of l g a v k 2 (by omega) (by omega)) gX5_weak_X5_of rfl rfl rfl (by decide +kernel) rfl ⟨Nat.le_of_ble_eq_true rfl, Nat.le_of_ble_eq_true rfl⟩ 5 0 rfl rfl hP hD hS hl.1 rfl (Nat.le_of_ble_eq_true rfl) dX5_weak_18 (fun r9 u9 H locs w1 hP hD hS => ?_)
        subst w1
        refine sp_top (y := tlo t k) (hM.lo (by omega)) ?_
        have hP : va_P g.1 vwCl (mdW g a v) H := hP
        have hD : va_D A (mdW g a v) := hD
        refine lv_aload_n hx hb dX5_weak_21 rfl (lv_at hl 0 rfl) ?_
        refine lv_iload_n hx hb dX5_weak_22 rfl (lv_at hl 2 rfl) ?_
        refine sp_vi0 (n := 1) SF hK hA (c_X5_strength l g a v t hM hI k (by omega)) gX5_weak_X5_strength rfl rfl rfl (by decide +kernel) rfl ⟨Nat.le_of_ble_eq_true rfl, Nat.le_of_ble_eq_true rfl⟩ 5 0 rfl rfl hP hD hS hl.1 rfl (Nat.le_of_ble_eq_true rfl) dX5_weak_23 (fun r9 u9 H locs w2 hP hD hS => ?_)
        subst w2
        have hP : va_P g.1 vwCl (mdW g a v) H := hP
        have hD : va_D A (mdW g a v) := hD
        refine lv_icmp_le (tgt := 35) hx hb dX5_weak_26 (by decide) (fun c2 => ?_) (fun c2 => ?_)
        · have c2 : ¬ nI (sp_str t k) < tlo t k := Int32.not_lt.mpr c2
          refine lv_iconst (v := nI 0) hx hb dX5_weak_35 (by decide) ?_
          refine lv_ior hx hb dX5_weak_36 ?_
          refine sp_top (y := z) (sp_or0 z) ?_
          refine lv_istore_n (lv' := [(1, .int z), (0, .ref a.1), (2, .int (nI k))]) hx hb dX5_weak_37 rfl hl (by decide) rfl (fun ls hl => ?_)
          refine lv_iinc (v := nI (k + 1)) (lv' := [(2, .int (nI (k + 1))), (1, .int z), (0, .ref a.1)]) hx hb dX5_weak_38 hl (k := 2) rfl (nI_1 k) (by decide) rfl (fun ls hl => ?_)
          refine lv_goto (tgt := 4) hx hb dX5_weak_41 (by decide) ?_
          exact ih4 (k + 1) z _ _ _ (by omega) (by rw [← hh, lp_step (sp_wks t) (show k < tn t by omega)]; first | rw [sp_wks_t c2] | rw [sp_wks_f c2]) (by omega) hP hD hS (lv_sub hl [2, 1, 0] rfl)
        · have c2 : nI (sp_str t k) < tlo t k := Int32.not_le.mp c2
          refine lv_iconst (v := nI 1) hx hb dX5_weak_29 (by decide) ?_
          refine lv_iload_n hx hb dX5_weak_30 rfl (lv_at hl 2 rfl) ?_
          refine lv_ishl hx hb dX5_weak_31 ?_
          refine lv_goto (tgt := 36) hx hb dX5_weak_32 (by decide) ?_
          refine lv_ior hx hb dX5_weak_36 ?_
          refine lv_istore_n (lv' := [(1, .int (z ||| ((nI 1) <<< ((nI k) &&& 31)))), (0, .ref a.1), (2, .int (nI k))]) hx hb dX5_weak_37 rfl hl (by decide) rfl (fun ls hl => ?_)
          refine lv_iinc (v := nI (k + 1)) (lv' := [(2, .int (nI (k + 1))), (1, .int (z ||| ((nI 1) <<< ((nI k) &&& 31)))), (0, .ref a.1)]) hx hb dX5_weak_38 hl (k := 2) rfl (nI_1 k) (by decide) rfl (fun ls hl => ?_)
          refine lv_goto (tgt := 4) hx hb dX5_weak_41 (by decide) ?_
          exact ih4 (k + 1) (z ||| ((nI 1) <<< ((nI k) &&& 31))) _ _ _ (by omega) (by rw [← hh, lp_step (sp_wks t) (show k < tn t by omega)]; first | rw [sp_wks_t c2] | rw [sp_wks_f c2]) (by omega) hP hD hS (lv_sub hl [2, 1, 0] rfl)
  exact hloop4 (_ + 1) 0 (nI 0) _ _ _ (Nat.zero_le _) (rfl) (Nat.lt_succ_self _) hP hD hS (lv_sub hl [2, 1, 0] rfl)

