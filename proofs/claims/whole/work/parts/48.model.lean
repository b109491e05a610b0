set_option maxHeartbeats 4000000 in
set_option maxRecDepth 100000 in
theorem c_X5_days (l : Launch) (g : sp_G) (a : sp_A9) (v : sp_V) (x : sp_S) (hX : sp_M v x) (B : Nat) (hJ : sp_J x B) (hB : B ≤ 150000) (n0 : Int32) : sp_CI l g yX5_days wsX5_days ({ frames := 1, cells := 0, slots := 0, locals := 22 }) [.ref a.1, .int n0] (mdW g a v) (fun r (w : sp_V) => r = (o_days x n0).1 ∧ sp_M w (o_days x n0).2) (fun w => mdW g a w) := by
  obtain ⟨t, z⟩ := x
  refine sp_CI.of (cc := cX5_days) (maxL := 2) (by decide) rfl (Nat.le_of_ble_eq_true rfl) ?_
  intro p e s m below meth c Q A ls SF hK hP hD hA hl hend
  have hx := SF.1
  have hb := SF.2.1
  have hown : s.vm.findClass RX5 = some m.cls := SF.2.2.2.1
  have hts := SF.2.2.2.2
  have hS : va_S A s.heap s.heap [] := va_S.rf
  have inX5 : ∀ w ∈ wsX50, w ∈ wsX5_days := fun w h => List.mem_cons_of_mem _ (List.mem_append_right _ h)
  have hl : lv_has ls 2 [(0, .ref a.1), (1, .int n0)] := hl
  have hM : sp_Rm v.1 t := hX.now
  have hI : sp_I t := hJ.now
  have hn8 := hI.n
  have hdB : td t ≤ B := hJ.d
  refine lv_iload_n hx hb dX5_days_0 rfl (lv_at hl 1 rfl) ?_
  refine lv_iconst (v := nI 1) hx hb dX5_days_1 (by decide) ?_
  refine lv_bipush (v := nI 60) hx hb dX5_days_2 (by decide) ?_
  refine sp_si (n := 3) (wc := []) (wr := (mdW g a v)) SF hK hA (c_X5_in l g n0 (nI 1) (nI 60)) gX5_days_X5_in rfl rfl rfl (by decide +kernel) rfl ⟨Nat.le_of_ble_eq_true rfl, Nat.le_of_ble_eq_true rfl⟩ hP hD hS hl.1 rfl (Nat.le_of_ble_eq_true rfl) dX5_days_4 (fun r9 u9 H locs hbb hP hD hS => ?_)
  obtain ⟨bb, rfl, hbb⟩ := hbb
  have hP : va_P g.1 vwCl (mdW g a v) H := hP
  have hD : va_D A (mdW g a v) := hD
  refine lv_if_ne (tgt := 13) hx hb dX5_days_7 (by decide) (fun c1 => ?_) (fun c1 => ?_)
  · have c1 := sp_b0n.mp c1
    obtain ⟨n, h1, h2, rfl⟩ := sp_inI_t (by omega) (by omega) (hbb.symm.trans c1)
    refine lv_aload_n hx hb dX5_days_13 rfl (lv_at hl 0 rfl) ?_
    refine sp_vv0 (n := 0) SF hK hA (c_X5_notes l g a v (t, z) hX B hJ (by omega)) gX5_days_X5_notes rfl rfl rfl (by decide +kernel) rfl ⟨Nat.le_of_ble_eq_true rfl, Nat.le_of_ble_eq_true rfl⟩ 5 0 rfl rfl hP hD hS hl.1 rfl (Nat.le_of_ble_eq_true rfl) dX5_days_14 (fun y1 H locs hy1 hP hD hS => ?_)
    have hP : va_P g.1 vwCl (mdW g a (v.1, v.2.1, y1.1, y1.2, v.2.2.2.2.1, v.2.2.2.2.2.1, v.2.2.2.2.2.2.1, v.2.2.2.2.2.2.2.1, v.2.2.2.2.2.2.2.2.1, v.2.2.2.2.2.2.2.2.2.1, v.2.2.2.2.2.2.2.2.2.2)) H := hP
    have hD : va_D A (mdW g a (v.1, v.2.1, y1.1, y1.2, v.2.2.2.2.1, v.2.2.2.2.2.1, v.2.2.2.2.2.2.1, v.2.2.2.2.2.2.2.1, v.2.2.2.2.2.2.2.2.1, v.2.2.2.2.2.2.2.2.2.1, v.2.2.2.2.2.2.2.2.2.2)) := hD
    refine lv_aload_n hx hb dX5_days_17 rfl (lv_at hl 0 rfl) ?_
    refine va_get (D := g.1) (ci := 5) (v := .ref a.2.1) (C := RX5) (T := TX5) (N := 11) hx hb hts inX5 hown hK.1 hP 0 rfl rfl 0 (by decide) (hts _ (List.mem_of_getElem? (i := 2) rfl)) (fun _ h9 => h9) rfl dX5_days_18 ?_
    refine lv_iconst (v := nI 0) hx hb dX5_days_21 (by decide) ?_
    refine lv_dup2_11 hx hb dX5_days_22 rfl rfl ?_
    refine va_iald hx hb hK.1 hP 1 0 rfl rfl (vp_in_nI (by omega) (by omega)) dX5_days_23 ?_
    refine sp_top (y := v.1 0) (congrArg v.1 (sp_c8 (k := 0) (by omega))) ?_
    refine sp_top (y := nI (td t)) (hM.d) ?_
    refine lv_iload_n hx hb dX5_days_24 rfl (lv_at hl 1 rfl) ?_
    refine lv_iadd hx hb dX5_days_25 ?_
    refine sp_top (y := nI ((td t) + n)) (nI_add _ _) ?_
    refine va_iast hx hb hK.1 hP hD hS 1 0 rfl rfl (vp_in_nI (by omega) (by omega)) dX5_days_26 (fun H locs hP hD hS => ?_)
    rw [sp_c8 (k := 0) (by omega)] at hP hD
    have hP : va_P g.1 vwCl (mdW g a ((upd v.1 0 (nI ((td t) + n))), v.2.1, y1.1, y1.2, v.2.2.2.2.1, v.2.2.2.2.2.1, v.2.2.2.2.2.2.1, v.2.2.2.2.2.2.2.1, v.2.2.2.2.2.2.2.2.1, v.2.2.2.2.2.2.2.2.2.1, v.2.2.2.2.2.2.2.2.2.2)) H := hP
    have hD : va_D A (mdW g a ((upd v.1 0 (nI ((td t) + n))), v.2.1, y1.1, y1.2, v.2.2.2.2.1, v.2.2.2.2.2.1, v.2.2.2.2.2.2.1, v.2.2.2.2.2.2.2.1, v.2.2.2.2.2.2.2.2.1, v.2.2.2.2.2.2.2.2.2.1, v.2.2.2.2.2.2.2.2.2.2)) := hD
    refine lv_aload_n hx hb dX5_days_27 rfl (lv_at hl 0 rfl) ?_
    refine va_get (D := g.1) (ci := 5) (v := .ref a.2.1) (C := RX5) (T := TX5) (N := 11) hx hb hts inX5 hown hK.1 hP 0 rfl rfl 0 (by decide) (hts _ (List.mem_of_getElem? (i := 2) rfl)) (fun _ h9 => h9) rfl dX5_days_28 ?_
    refine lv_iconst (v := nI 0) hx hb dX5_days_31 (by decide) ?_
    refine va_iald hx hb hK.1 hP 1 0 rfl rfl (vp_in_nI (by omega) (by omega)) dX5_days_32 ?_
    refine sp_top (y := (upd v.1 0 (nI ((td t) + n))) 0) (congrArg (upd v.1 0 (nI ((td t) + n))) (sp_c8 (k := 0) (by omega))) ?_
    refine sp_top (y := nI (td t + n)) (sp_upd_s) ?_
    exact hend _ _ _ _ _ ((upd v.1 0 (nI ((td t) + n))), v.2.1, y1.1, y1.2, v.2.2.2.2.1, v.2.2.2.2.2.1, v.2.2.2.2.2.2.1, v.2.2.2.2.2.2.2.1, v.2.2.2.2.2.2.2.2.1, v.2.2.2.2.2.2.2.2.2.1, v.2.2.2.2.2.2.2.2.2.2) dX5_days_33 (sp_an (o_days_in h1 h2) (sp_M_set hy1 (sp_Rm_setd hM hn8 _ (fun _ _ _ => rfl)))) hP hD hS
  · have c1 := sp_b0.mp c1
    refine lv_ldc (v := (-1000000002)) hx hb hown (hts _ (List.mem_of_getElem? (i := 1) rfl)) dX5_days_10 ?_
    exact hend _ _ _ _ _ v dX5_days_12 (sp_an (o_days_o (hbb.symm.trans c1)) hX) hP hD hS

set_option maxHeartbeats 4000000 in
set_option maxRecDepth 100000 in
theorem c_X5_pour (l : Launch) (g : sp_G) (a : sp_A9) (v : sp_V) (x : sp_S) (hX : sp_M v x) (B : Nat) (hJ : sp_J x B) (hB : B ≤ 150000) : sp_CI l g yX5_pour wsX5_pour ({ frames := 7, cells := 0, slots := 0, locals := 156 }) [.ref a.1] (mdW g a v) (fun r (w : sp_V) => r = (o_pour x).1 ∧ sp_M w (o_pour x).2) (fun w => mdW g a w) := by
  obtain ⟨t, z⟩ := x
  refine sp_CI.of (cc := cX5_pour) (maxL := 1) (by decide) rfl (Nat.le_of_ble_eq_true rfl) ?_
  intro p e s m below meth c Q A ls SF hK hP hD hA hl hend
  have hx := SF.1
  have hb := SF.2.1
  have hown : s.vm.findClass RX5 = some m.cls := SF.2.2.2.1
  have hts := SF.2.2.2.2
  have hS : va_S A s.heap s.heap [] := va_S.rf
  have inX5 : ∀ w ∈ wsX50, w ∈ wsX5_pour := fun w h => List.mem_cons_of_mem _ (List.mem_append_right _ h)
  have hl : lv_has ls 1 [(0, .ref a.1)] := hl
  have hM : sp_Rm v.1 t := hX.now
  have hI : sp_I t := hJ.now
  have hn8 := hI.n
  have hdB : td t ≤ B := hJ.d
  refine lv_aload_n hx hb dX5_pour_0 rfl (lv_at hl 0 rfl) ?_
  refine va_get (D := g.1) (ci := 5) (v := .ref a.2.1) (C := RX5) (T := TX5) (N := 11) hx hb hts inX5 hown hK.1 hP 0 rfl rfl 0 (by decide) (hts _ (List.mem_of_getElem? (i := 1) rfl)) (fun _ h9 => h9) rfl dX5_pour_1 ?_
  refine lv_iconst (v := nI 1) hx hb dX5_pour_4 (by decide) ?_
  refine va_iald hx hb hK.1 hP 1 0 rfl rfl (vp_in_nI (by omega) (by omega)) dX5_pour_5 ?_
  refine sp_top (y := v.1 1) (congrArg v.1 (sp_c8 (k := 1) (by omega))) ?_
  refine sp_top (y := nI (tn t)) (hM.n) ?_
  refine lv_bipush (v := nI 8) hx hb dX5_pour_6 (by decide) ?_
  refine lv_icmp_ne (tgt := 14) hx hb dX5_pour_8 (by decide) (fun c1 => ?_) (fun c1 => ?_)
  · have c1 := mt (nI_eq (by omega) (by omega)).mpr c1
    have hn : tn t < 8 := by omega
    refine lv_aload_n hx hb dX5_pour_14 rfl (lv_at hl 0 rfl) ?_
    refine sp_vi0 (n := 0) SF hK hA (c_X5_mayPour l g a v t hM hI) gX5_pour_X5_mayPour rfl rfl rfl (by decide +kernel) rfl ⟨Nat.le_of_ble_eq_true rfl, Nat.le_of_ble_eq_true rfl⟩ 5 0 rfl rfl hP hD hS hl.1 rfl (Nat.le_of_ble_eq_true rfl) dX5_pour_15 (fun r9 x1 H locs hw1 hP hD hS => ?_)
    obtain ⟨b1, rfl, hw1⟩ := hw1
    have hP : va_P g.1 vwCl (mdW g a (x1.1, x1.2.1, v.2.2.1, v.2.2.2.1, v.2.2.2.2.1, v.2.2.2.2.2.1, v.2.2.2.2.2.2.1, v.2.2.2.2.2.2.2.1, v.2.2.2.2.2.2.2.2.1, v.2.2.2.2.2.2.2.2.2.1, x1.2.2)) H := hP
    have hD : va_D A (mdW g a (x1.1, x1.2.1, v.2.2.1, v.2.2.2.1, v.2.2.2.2.1, v.2.2.2.2.2.1, v.2.2.2.2.2.2.1, v.2.2.2.2.2.2.2.1, v.2.2.2.2.2.2.2.2.1, v.2.2.2.2.2.2.2.2.2.1, x1.2.2)) := hD
    have hM2 := sp_Rm_ext hM hn8 hw1.2
    have hmp := hw1.1.trans (sp_mp_eq hn)
    refine lv_if_ne (tgt := 24) hx hb dX5_pour_18 (by decide) (fun c2 => ?_) (fun c2 => ?_)
    · have c2 := sp_b0n.mp c2
      refine lv_aload_n hx hb dX5_pour_24 rfl (lv_at hl 0 rfl) ?_
      refine sp_vv0 (n := 0) SF hK hA (c_X5_notes l g a (x1.1, x1.2.1, v.2.2.1, v.2.2.2.1, v.2.2.2.2.1, v.2.2.2.2.2.1, v.2.2.2.2.2.2.1, v.2.2.2.2.2.2.2.1, v.2.2.2.2.2.2.2.2.1, v.2.2.2.2.2.2.2.2.2.1, x1.2.2) (t, z) (sp_M_ext hX hn8 hw1.2) B hJ (by omega)) gX5_pour_X5_notes rfl rfl rfl (by decide +kernel) rfl ⟨Nat.le_of_ble_eq_true rfl, Nat.le_of_ble_eq_true rfl⟩ 5 0 rfl rfl hP hD hS hl.1 rfl (Nat.le_of_ble_eq_true rfl) dX5_pour_25 (fun y1 H locs hy1 hP hD hS => ?_)
      have hP : va_P g.1 vwCl (mdW g a (x1.1, x1.2.1, y1.1, y1.2, v.2.2.2.2.1, v.2.2.2.2.2.1, v.2.2.2.2.2.2.1, v.2.2.2.2.2.2.2.1, v.2.2.2.2.2.2.2.2.1, v.2.2.2.2.2.2.2.2.2.1, x1.2.2)) H := hP
      have hD : va_D A (mdW g a (x1.1, x1.2.1, y1.1, y1.2, v.2.2.2.2.1, v.2.2.2.2.2.1, v.2.2.2.2.2.2.1, v.2.2.2.2.2.2.2.1, v.2.2.2.2.2.2.2.2.1, v.2.2.2.2.2.2.2.2.2.1, x1.2.2)) := hD
      refine lv_aload_n hx hb dX5_pour_28 rfl (lv_at hl 0 rfl) ?_
      refine sp_vv0 (n := 0) SF hK hA (c_X5_pours l g a (x1.1, x1.2.1, y1.1, y1.2, v.2.2.2.2.1, v.2.2.2.2.2.1, v.2.2.2.2.2.2.1, v.2.2.2.2.2.2.2.1, v.2.2.2.2.2.2.2.2.1, v.2.2.2.2.2.2.2.2.2.1, x1.2.2) t hM2 hI hn) gX5_pour_X5_pours rfl rfl rfl (by decide +kernel) rfl ⟨Nat.le_of_ble_eq_true rfl, Nat.le_of_ble_eq_true rfl⟩ 5 0 rfl rfl hP hD hS hl.1 rfl (Nat.le_of_ble_eq_true rfl) dX5_pour_29 (fun x2 H locs hs2 hP hD hS => ?_)
      have hP : va_P g.1 vwCl (mdW g a (x2.1, x1.2.1, y1.1, y1.2, v.2.2.2.2.1, v.2.2.2.2.2.1, v.2.2.2.2.2.2.1, v.2.2.2.2.2.2.2.1, v.2.2.2.2.2.2.2.2.1, v.2.2.2.2.2.2.2.2.2.1, x2.2)) H := hP
      have hD : va_D A (mdW g a (x2.1, x1.2.1, y1.1, y1.2, v.2.2.2.2.1, v.2.2.2.2.2.1, v.2.2.2.2.2.2.1, v.2.2.2.2.2.2.2.1, v.2.2.2.2.2.2.2.2.1, v.2.2.2.2.2.2.2.2.2.1, x2.2)) := hD
      refine lv_aload_n hx hb dX5_pour_32 rfl (lv_at hl 0 rfl) ?_
      refine va_get (D := g.1) (ci := 5) (v := .ref a.2.1) (C := RX5) (T := TX5) (N := 11) hx hb hts inX5 hown hK.1 hP 0 rfl rfl 0 (by decide) (hts _ (List.mem_of_getElem? (i := 1) rfl)) (fun _ h9 => h9) rfl dX5_pour_33 ?_
      refine lv_iconst (v := nI 1) hx hb dX5_pour_36 (by decide) ?_
      refine va_iald hx hb hK.1 hP 1 0 rfl rfl (vp_in_nI (by omega) (by omega)) dX5_pour_37 ?_
      refine sp_top (y := x2.1 1) (congrArg x2.1 (sp_c8 (k := 1) (by omega))) ?_
      refine sp_top (y := nI (tn t + 1)) (by rw [← sp_pour_n]; exact hs2.n) ?_
      refine lv_iconst (v := nI 1) hx hb dX5_pour_38 (by decide) ?_
      refine lv_isub hx hb dX5_pour_39 ?_
      refine sp_top (y := nI (tn t)) (nI_pred _) ?_
      exact hend _ _ _ _ _ (x2.1, x1.2.1, y1.1, y1.2, v.2.2.2.2.1, v.2.2.2.2.2.1, v.2.2.2.2.2.2.1, v.2.2.2.2.2.2.2.1, v.2.2.2.2.2.2.2.2.1, v.2.2.2.2.2.2.2.2.2.1, x2.2) dX5_pour_40 (sp_an (o_pour_y (x := (t, z)) c1 (hmp.symm.trans c2)) (sp_M_set hy1 hs2)) hP hD hS
    · have c2 := sp_b0.mp c2
      refine lv_ldc (v := (-1000000003)) hx hb hown (hts _ (List.mem_of_getElem? (i := 3) rfl)) dX5_pour_21 ?_
      exact hend _ _ _ _ _ (x1.1, x1.2.1, v.2.2.1, v.2.2.2.1, v.2.2.2.2.1, v.2.2.2.2.2.1, v.2.2.2.2.2.2.1, v.2.2.2.2.2.2.2.1, v.2.2.2.2.2.2.2.2.1, v.2.2.2.2.2.2.2.2.2.1, x1.2.2) dX5_pour_23 (sp_an (o_pour_n (x := (t, z)) c1 (hmp.symm.trans c2)) (sp_M_ext hX hn8 hw1.2)) hP hD hS
  · have c1 := (nI_eq (by omega) (by omega)).mp c1
    refine lv_ldc (v := (-1000000004)) hx hb hown (hts _ (List.mem_of_getElem? (i := 2) rfl)) dX5_pour_11 ?_
    exact hend _ _ _ _ _ v dX5_pour_13 (sp_an (o_pour_f (x := (t, z)) c1) hX) hP hD hS

set_option maxHeartbeats 4000000 in
set_option maxRecDepth 100000 in
theorem c_X5_strike (l : Launch) (g : sp_G) (a : sp_A9) (v : sp_V) (x : sp_S) (hX : sp_M v x) (B : Nat) (hJ : sp_J x B) (hB : B ≤ 150000) (i0 : Int32) : sp_CI l g yX5_strike wsX5_strike ({ frames := 7, cells := 0, slots := 0, locals := 158 }) [.ref a.1, .int i0] (mdW g a v) (fun r (w : sp_V) => r = (o_strike x i0).1 ∧ sp_M w (o_strike x i0).2) (fun w => mdW g a w) := by
  obtain ⟨t, z⟩ := x
  refine sp_CI.of (cc := cX5_strike) (maxL := 2) (by decide) rfl (Nat.le_of_ble_eq_true rfl) ?_
  intro p e s m below meth c Q A ls SF hK hP hD hA hl hend
  have hx := SF.1
  have hb := SF.2.1
  have hown : s.vm.findClass RX5 = some m.cls := SF.2.2.2.1
  have hts := SF.2.2.2.2
  have hS : va_S A s.heap s.heap [] := va_S.rf
  have inX5 : ∀ w ∈ wsX50, w ∈ wsX5_strike := fun w h => List.mem_cons_of_mem _ (List.mem_append_right _ h)
  have hl : lv_has ls 2 [(0, .ref a.1), (1, .int i0)] := hl
  have hM : sp_Rm v.1 t := hX.now
  have hI : sp_I t := hJ.now
  have hn8 := hI.n
  have hdB : td t ≤ B := hJ.d
  refine lv_aload_n hx hb dX5_strike_0 rfl (lv_at hl 0 rfl) ?_
  refine lv_iload_n hx hb dX5_strike_1 rfl (lv_at hl 1 rfl) ?_
  refine sp_vi0 (n := 1) SF hK hA (c_X5_isFloor l g a v t hM hI i0) gX5_strike_X5_isFloor rfl rfl rfl (by decide +kernel) rfl ⟨Nat.le_of_ble_eq_true rfl, Nat.le_of_ble_eq_true rfl⟩ 5 0 rfl rfl hP hD hS hl.1 rfl (Nat.le_of_ble_eq_true rfl) dX5_strike_2 (fun r9 u9 H locs hbb hP hD hS => ?_)
  obtain ⟨bb, rfl, hbb⟩ := hbb
  have hP : va_P g.1 vwCl (mdW g a v) H := hP
  have hD : va_D A (mdW g a v) := hD
  refine lv_if_ne (tgt := 11) hx hb dX5_strike_5 (by decide) (fun c1 => ?_) (fun c1 => ?_)
  · have c1 := sp_b0n.mp c1
    obtain ⟨j, hj, rfl⟩ := sp_has_t (hbb.symm.trans c1) hn8
    refine lv_aload_n hx hb dX5_strike_11 rfl (lv_at hl 0 rfl) ?_
    refine lv_iload_n hx hb dX5_strike_12 rfl (lv_at hl 1 rfl) ?_
    refine sp_vi0 (n := 1) SF hK hA (c_X5_mayStrike l g a v t hM hI (nI j)) gX5_strike_X5_mayStrike rfl rfl rfl (by decide +kernel) rfl ⟨Nat.le_of_ble_eq_true rfl, Nat.le_of_ble_eq_true rfl⟩ 5 0 rfl rfl hP hD hS hl.1 rfl (Nat.le_of_ble_eq_true rfl) dX5_strike_13 (fun r9 x1 H locs hw1 hP hD hS => ?_)
    obtain ⟨b1, rfl, hw1⟩ := hw1
    have hP : va_P g.1 vwCl (mdW g a (x1.1, x1.2.1, v.2.2.1, v.2.2.2.1, v.2.2.2.2.1, v.2.2.2.2.2.1, v.2.2.2.2.2.2.1, v.2.2.2.2.2.2.2.1, v.2.2.2.2.2.2.2.2.1, v.2.2.2.2.2.2.2.2.2.1, x1.2.2)) H := hP
    have hD : va_D A (mdW g a (x1.1, x1.2.1, v.2.2.1, v.2.2.2.1, v.2.2.2.2.1, v.2.2.2.2.2.1, v.2.2.2.2.2.2.1, v.2.2.2.2.2.2.2.1, v.2.2.2.2.2.2.2.2.1, v.2.2.2.2.2.2.2.2.2.1, x1.2.2)) := hD
    have hM2 := sp_Rm_ext hM hn8 hw1.2
    have hms := hw1.1.trans (sp_msx_n hn8 hj)
    refine lv_if_ne (tgt := 22) hx hb dX5_strike_16 (by decide) (fun c2 => ?_) (fun c2 => ?_)
    · have c2 := sp_b0n.mp c2
      refine lv_aload_n hx hb dX5_strike_22 rfl (lv_at hl 0 rfl) ?_
      refine sp_vv0 (n := 0) SF hK hA (c_X5_notes l g a (x1.1, x1.2.1, v.2.2.1, v.2.2.2.1, v.2.2.2.2.1, v.2.2.2.2.2.1, v.2.2.2.2.2.2.1, v.2.2.2.2.2.2.2.1, v.2.2.2.2.2.2.2.2.1, v.2.2.2.2.2.2.2.2.2.1, x1.2.2) (t, z) (sp_M_ext hX hn8 hw1.2) B hJ (by omega)) gX5_strike_X5_notes rfl rfl rfl (by decide +kernel) rfl ⟨Nat.le_of_ble_eq_true rfl, Nat.le_of_ble_eq_true rfl⟩ 5 0 rfl rfl hP hD hS hl.1 rfl (Nat.le_of_ble_eq_true rfl) dX5_strike_23 (fun y1 H locs hy1 hP hD hS => ?_)
      have hP : va_P g.1 vwCl (mdW g a (x1.1, x1.2.1, y1.1, y1.2, v.2.2.2.2.1, v.2.2.2.2.2.1, v.2.2.2.2.2.2.1, v.2.2.2.2.2.2.2.1, v.2.2.2.2.2.2.2.2.1, v.2.2.2.2.2.2.2.2.2.1, x1.2.2)) H := hP
      have hD : va_D A (mdW g a (x1.1, x1.2.1, y1.1, y1.2, v.2.2.2.2.1, v.2.2.2.2.2.1, v.2.2.2.2.2.2.1, v.2.2.2.2.2.2.2.1, v.2.2.2.2.2.2.2.2.1, v.2.2.2.2.2.2.2.2.2.1, x1.2.2)) := hD
      refine lv_aload_n hx hb dX5_strike_26 rfl (lv_at hl 0 rfl) ?_
      refine lv_iload_n hx hb dX5_strike_27 rfl (lv_at hl 1 rfl) ?_
      refine sp_vv0 (n := 1) SF hK hA (c_X5_strikes l g a (x1.1, x1.2.1, y1.1, y1.2, v.2.2.2.2.1, v.2.2.2.2.2.1, v.2.2.2.2.2.2.1, v.2.2.2.2.2.2.2.1, v.2.2.2.2.2.2.2.2.1, v.2.2.2.2.2.2.2.2.2.1, x1.2.2) t hM2 hI j hj) gX5_strike_X5_strikes rfl rfl rfl (by decide +kernel) rfl ⟨Nat.le_of_ble_eq_true rfl, Nat.le_of_ble_eq_true rfl⟩ 5 0 rfl rfl hP hD hS hl.1 rfl (Nat.le_of_ble_eq_true rfl) dX5_strike_28 (fun x2 H locs hs2 hP hD hS => ?_)
      have hP : va_P g.1 vwCl (mdW g a (x2.1, x1.2.1, y1.1, y1.2, v.2.2.2.2.1, v.2.2.2.2.2.1, v.2.2.2.2.2.2.1, v.2.2.2.2.2.2.2.1, v.2.2.2.2.2.2.2.2.1, v.2.2.2.2.2.2.2.2.2.1, x2.2)) H := hP
      have hD : va_D A (mdW g a (x2.1, x1.2.1, y1.1, y1.2, v.2.2.2.2.1, v.2.2.2.2.2.1, v.2.2.2.2.2.2.1, v.2.2.2.2.2.2.2.1, v.2.2.2.2.2.2.2.2.1, v.2.2.2.2.2.2.2.2.2.1, x2.2)) := hD
      refine lv_aload_n hx hb dX5_strike_31 rfl (lv_at hl 0 rfl) ?_
      refine lv_iload_n hx hb dX5_strike_32 rfl (lv_at hl 1 rfl) ?_
      refine sp_vi0 (n := 1) SF hK hA (c_X5_lowest l g a (x2.1, x1.2.1, y1.1, y1.2, v.2.2.2.2.1, v.2.2.2.2.2.1, v.2.2.2.2.2.2.1, v.2.2.2.2.2.2.2.1, v.2.2.2.2.2.2.2.2.1, v.2.2.2.2.2.2.2.2.2.1, x2.2) (sp_stk t j) hs2 (sp_I_stk hI j) j (by rw [sp_stk_n]; exact hj)) gX5_strike_X5_lowest rfl rfl rfl (by decide +kernel) rfl ⟨Nat.le_of_ble_eq_true rfl, Nat.le_of_ble_eq_true rfl⟩ 5 0 rfl rfl hP hD hS hl.1 rfl (Nat.le_of_ble_eq_true rfl) dX5_strike_33 (fun r9 u9 H locs w1 hP hD hS => ?_)
      subst w1
      have hP : va_P g.1 vwCl (mdW g a (x2.1, x1.2.1, y1.1, y1.2, v.2.2.2.2.1, v.2.2.2.2.2.1, v.2.2.2.2.2.2.1, v.2.2.2.2.2.2.2.1, v.2.2.2.2.2.2.2.2.1, v.2.2.2.2.2.2.2.2.2.1, x2.2)) H := hP
      have hD : va_D A (mdW g a (x2.1, x1.2.1, y1.1, y1.2, v.2.2.2.2.1, v.2.2.2.2.2.1, v.2.2.2.2.2.2.1, v.2.2.2.2.2.2.2.1, v.2.2.2.2.2.2.2.2.1, v.2.2.2.2.2.2.2.2.2.1, x2.2)) := hD
      exact hend _ _ _ _ _ (x2.1, x1.2.1, y1.1, y1.2, v.2.2.2.2.1, v.2.2.2.2.2.1, v.2.2.2.2.2.2.1, v.2.2.2.2.2.2.2.1, v.2.2.2.2.2.2.2.2.1, v.2.2.2.2.2.2.2.2.2.1, x2.2) dX5_strike_36 (sp_an (o_strike_y (x := (t, z)) hn8 hj (hms.symm.trans c2)) (sp_M_set hy1 hs2)) hP hD hS
    · have c2 := sp_b0.mp c2
      refine lv_ldc (v := (-1000000003)) hx hb hown (hts _ (List.mem_of_getElem? (i := 2) rfl)) dX5_strike_19 ?_
      exact hend _ _ _ _ _ (x1.1, x1.2.1, v.2.2.1, v.2.2.2.1, v.2.2.2.2.1, v.2.2.2.2.2.1, v.2.2.2.2.2.2.1, v.2.2.2.2.2.2.2.1, v.2.2.2.2.2.2.2.2.1, v.2.2.2.2.2.2.2.2.2.1, x1.2.2) dX5_strike_21 (sp_an (o_strike_n (x := (t, z)) hn8 hj (hms.symm.trans c2)) (sp_M_ext hX hn8 hw1.2)) hP hD hS
  · have c1 := sp_b0.mp c1
    refine lv_ldc (v := (-1000000001)) hx hb hown (hts _ (List.mem_of_getElem? (i := 1) rfl)) dX5_strike_8 ?_
    exact hend _ _ _ _ _ v dX5_strike_10 (sp_an (o_strike_u (x := (t, z)) (hbb.symm.trans c1)) hX) hP hD hS

set_option maxHeartbeats 4000000 in
set_option maxRecDepth 100000 in
theorem c_X5_back (l : Launch) (g : sp_G) (a : sp_A9) (v : sp_V) (x : sp_S) (hX : sp_M v x) (B : Nat) (hJ : sp_J x B) (hB : B ≤ 150000) (i0 : Int32) : sp_CI l g yX5_back wsX5_back ({ frames := 3, cells := 0, slots := 0, locals := 65 }) [.ref a.1, .int i0] (mdW g a v) (fun r (w : sp_V) => r = (o_back x i0).1 ∧ sp_M w (o_back x i0).2) (fun w => mdW g a w) := by
  obtain ⟨t, z⟩ := x
  refine sp_CI.of (cc := cX5_back) (maxL := 2) (by decide) rfl (Nat.le_of_ble_eq_true rfl) ?_
  intro p e s m below meth c Q A ls SF hK hP hD hA hl hend
  have hx := SF.1
  have hb := SF.2.1
  have hown : s.vm.findClass RX5 = some m.cls := SF.2.2.2.1
  have hts := SF.2.2.2.2
  have hS : va_S A s.heap s.heap [] := va_S.rf
  have inX5 : ∀ w ∈ wsX50, w ∈ wsX5_back := fun w h => List.mem_cons_of_mem _ (List.mem_append_right _ h)
  have hl : lv_has ls 2 [(0, .ref a.1), (1, .int i0)] := hl
  have hM : sp_Rm v.1 t := hX.now
  have hI : sp_I t := hJ.now
  have hn8 := hI.n
  have hdB : td t ≤ B := hJ.d
  refine lv_aload_n hx hb dX5_back_0 rfl (lv_at hl 0 rfl) ?_
  refine lv_iload_n hx hb dX5_back_1 rfl (lv_at hl 1 rfl) ?_
  refine sp_vi0 (n := 1) SF hK hA (c_X5_isFloor l g a v t hM hI i0) gX5_back_X5_isFloor rfl rfl rfl (by decide +kernel) rfl ⟨Nat.le_of_ble_eq_true rfl, Nat.le_of_ble_eq_true rfl⟩ 5 0 rfl rfl hP hD hS hl.1 rfl (Nat.le_of_ble_eq_true rfl) dX5_back_2 (fun r9 u9 H locs hbb hP hD hS => ?_)
  obtain ⟨bb, rfl, hbb⟩ := hbb
  have hP : va_P g.1 vwCl (mdW g a v) H := hP
  have hD : va_D A (mdW g a v) := hD
  refine lv_if_ne (tgt := 11) hx hb dX5_back_5 (by decide) (fun c1 => ?_) (fun c1 => ?_)
  · have c1 := sp_b0n.mp c1
    obtain ⟨j, hj, rfl⟩ := sp_has_t (hbb.symm.trans c1) hn8
    refine lv_aload_n hx hb dX5_back_11 rfl (lv_at hl 0 rfl) ?_
    refine lv_iload_n hx hb dX5_back_12 rfl (lv_at hl 1 rfl) ?_
    refine sp_vi0 (n := 1) SF hK hA (c_X5_isPropped l g a v t hM hI j hj) gX5_back_X5_isPropped rfl rfl rfl (by decide +kernel) rfl ⟨Nat.le_of_ble_eq_true rfl, Nat.le_of_ble_eq_true rfl⟩ 5 0 rfl rfl hP hD hS hl.1 rfl (Nat.le_of_ble_eq_true rfl) dX5_back_13 (fun r9 u9 H locs hb2 hP hD hS => ?_)
    obtain ⟨b2, rfl, hb2⟩ := hb2
    have hP : va_P g.1 vwCl (mdW g a v) H := hP
    have hD : va_D A (mdW g a v) := hD
    refine lv_if_eq (tgt := 22) hx hb dX5_back_16 (by decide) (fun c2 => ?_) (fun c2 => ?_)
    · have c2 := sp_b0.mp c2
      refine lv_aload_n hx hb dX5_back_22 rfl (lv_at hl 0 rfl) ?_
      refine sp_vv0 (n := 0) SF hK hA (c_X5_notes l g a v (t, z) hX B hJ (by omega)) gX5_back_X5_notes rfl rfl rfl (by decide +kernel) rfl ⟨Nat.le_of_ble_eq_true rfl, Nat.le_of_ble_eq_true rfl⟩ 5 0 rfl rfl hP hD hS hl.1 rfl (Nat.le_of_ble_eq_true rfl) dX5_back_23 (fun y1 H locs hy1 hP hD hS => ?_)
      have hP : va_P g.1 vwCl (mdW g a (v.1, v.2.1, y1.1, y1.2, v.2.2.2.2.1, v.2.2.2.2.2.1, v.2.2.2.2.2.2.1, v.2.2.2.2.2.2.2.1, v.2.2.2.2.2.2.2.2.1, v.2.2.2.2.2.2.2.2.2.1, v.2.2.2.2.2.2.2.2.2.2)) H := hP
      have hD : va_D A (mdW g a (v.1, v.2.1, y1.1, y1.2, v.2.2.2.2.1, v.2.2.2.2.2.1, v.2.2.2.2.2.2.1, v.2.2.2.2.2.2.2.1, v.2.2.2.2.2.2.2.2.1, v.2.2.2.2.2.2.2.2.2.1, v.2.2.2.2.2.2.2.2.2.2)) := hD
      refine lv_aload_n hx hb dX5_back_26 rfl (lv_at hl 0 rfl) ?_
      refine lv_iload_n hx hb dX5_back_27 rfl (lv_at hl 1 rfl) ?_
      refine lv_iconst (v := nI 3) hx hb dX5_back_28 (by decide) ?_
      refine lv_iconst (v := nI 1) hx hb dX5_back_29 (by decide) ?_
      refine sp_vv0 (n := 3) SF hK hA (c_X5_put l g a (v.1, v.2.1, y1.1, y1.2, v.2.2.2.2.1, v.2.2.2.2.2.1, v.2.2.2.2.2.2.1, v.2.2.2.2.2.2.2.1, v.2.2.2.2.2.2.2.2.1, v.2.2.2.2.2.2.2.2.2.1, v.2.2.2.2.2.2.2.2.2.2) j 3 (by omega) (by omega) (nI 1)) gX5_back_X5_put rfl rfl rfl (by decide +kernel) rfl ⟨Nat.le_of_ble_eq_true rfl, Nat.le_of_ble_eq_true rfl⟩ 5 0 rfl rfl hP hD hS hl.1 rfl (Nat.le_of_ble_eq_true rfl) dX5_back_30 (fun u9 H locs w1 hP hD hS => ?_)
      have hP : va_P g.1 vwCl (mdW g a ((upd v.1 (6 + 4 * j + 3) (nI 1)), v.2.1, y1.1, y1.2, v.2.2.2.2.1, v.2.2.2.2.2.1, v.2.2.2.2.2.2.1, v.2.2.2.2.2.2.2.1, v.2.2.2.2.2.2.2.2.1, v.2.2.2.2.2.2.2.2.2.1, v.2.2.2.2.2.2.2.2.2.2)) H := hP
      have hD : va_D A (mdW g a ((upd v.1 (6 + 4 * j + 3) (nI 1)), v.2.1, y1.1, y1.2, v.2.2.2.2.1, v.2.2.2.2.2.1, v.2.2.2.2.2.2.1, v.2.2.2.2.2.2.2.1, v.2.2.2.2.2.2.2.2.1, v.2.2.2.2.2.2.2.2.2.1, v.2.2.2.2.2.2.2.2.2.2)) := hD
      refine lv_aload_n hx hb dX5_back_33 rfl (lv_at hl 0 rfl) ?_
      refine lv_iload_n hx hb dX5_back_34 rfl (lv_at hl 1 rfl) ?_
      refine sp_vi0 (n := 1) SF hK hA (c_X5_lowest l g a ((upd v.1 (6 + 4 * j + 3) (nI 1)), v.2.1, y1.1, y1.2, v.2.2.2.2.1, v.2.2.2.2.2.1, v.2.2.2.2.2.2.1, v.2.2.2.2.2.2.2.1, v.2.2.2.2.2.2.2.2.1, v.2.2.2.2.2.2.2.2.2.1, v.2.2.2.2.2.2.2.2.2.2) (sp_on t j) (sp_Rm_on hM j) (sp_I_on hI hj) j hj) gX5_back_X5_lowest rfl rfl rfl (by decide +kernel) rfl ⟨Nat.le_of_ble_eq_true rfl, Nat.le_of_ble_eq_true rfl⟩ 5 0 rfl rfl hP hD hS hl.1 rfl (Nat.le_of_ble_eq_true rfl) dX5_back_35 (fun r9 u9 H locs w2 hP hD hS => ?_)
      subst w2
      have hP : va_P g.1 vwCl (mdW g a ((upd v.1 (6 + 4 * j + 3) (nI 1)), v.2.1, y1.1, y1.2, v.2.2.2.2.1, v.2.2.2.2.2.1, v.2.2.2.2.2.2.1, v.2.2.2.2.2.2.2.1, v.2.2.2.2.2.2.2.2.1, v.2.2.2.2.2.2.2.2.2.1, v.2.2.2.2.2.2.2.2.2.2)) H := hP
      have hD : va_D A (mdW g a ((upd v.1 (6 + 4 * j + 3) (nI 1)), v.2.1, y1.1, y1.2, v.2.2.2.2.1, v.2.2.2.2.2.1, v.2.2.2.2.2.2.1, v.2.2.2.2.2.2.2.1, v.2.2.2.2.2.2.2.2.1, v.2.2.2.2.2.2.2.2.2.1, v.2.2.2.2.2.2.2.2.2.2)) := hD
      exact hend _ _ _ _ _ ((upd v.1 (6 + 4 * j + 3) (nI 1)), v.2.1, y1.1, y1.2, v.2.2.2.2.1, v.2.2.2.2.2.1, v.2.2.2.2.2.2.1, v.2.2.2.2.2.2.2.1, v.2.2.2.2.2.2.2.2.1, v.2.2.2.2.2.2.2.2.2.1, v.2.2.2.2.2.2.2.2.2.2) dX5_back_38 (sp_an (o_back_y (x := (t, z)) hn8 hj (hb2.symm.trans c2)) (sp_M_set hy1 (sp_Rm_on hM j))) hP hD hS
    · have c2 := sp_b0n.mp c2
      refine lv_ldc (v := (-1000000003)) hx hb hown (hts _ (List.mem_of_getElem? (i := 2) rfl)) dX5_back_19 ?_
      exact hend _ _ _ _ _ v dX5_back_21 (sp_an (o_back_n (x := (t, z)) hn8 hj (hb2.symm.trans c2)) hX) hP hD hS
  · have c1 := sp_b0.mp c1
    refine lv_ldc (v := (-1000000001)) hx hb hown (hts _ (List.mem_of_getElem? (i := 1) rfl)) dX5_back_8 ?_
    exact hend _ _ _ _ _ v dX5_back_10 (sp_an (o_back_u (x := (t, z)) (hbb.symm.trans c1)) hX) hP hD hS

set_option maxHeartbeats 4000000 in
set_option maxRecDepth 100000 in
theorem c_X5_slow (l : Launch) (g : sp_G) (a : sp_A9) (v : sp_V) (x : sp_S) (hX : sp_M v x) (B : Nat) (hJ : sp_J x B) (hB : B ≤ 150000) (i0 v0 : Int32) : sp_CI l g yX5_slow wsX5_slow ({ frames := 2, cells := 0, slots := 0, locals := 43 }) [.ref a.1, .int i0, .int v0] (mdW g a v) (fun r (w : sp_V) => r = (o_slow x i0 v0).1 ∧ sp_M w (o_slow x i0 v0).2) (fun w => mdW g a w) := by
  obtain ⟨t, z⟩ := x
  refine sp_CI.of (cc := cX5_slow) (maxL := 4) (by decide) rfl (Nat.le_of_ble_eq_true rfl) ?_
  intro p e s m below meth c Q A ls SF hK hP hD hA hl hend
  have hx := SF.1
  have hb := SF.2.1
  have hown : s.vm.findClass RX5 = some m.cls := SF.2.2.2.1
  have hts := SF.2.2.2.2
  have hS : va_S A s.heap s.heap [] := va_S.rf
  have inX5 : ∀ w ∈ wsX50, w ∈ wsX5_slow := fun w h => List.mem_cons_of_mem _ (List.mem_append_right _ h)
  have hl : lv_has ls 4 [(0, .ref a.1), (1, .int i0), (2, .int v0)] := hl
  have hM : sp_Rm v.1 t := hX.now
  have hI : sp_I t := hJ.now
  have hn8 := hI.n
  have hdB : td t ≤ B := hJ.d
  refine lv_aload_n hx hb dX5_slow_0 rfl (lv_at hl 0 rfl) ?_
  refine lv_iload_n hx hb dX5_slow_1 rfl (lv_at hl 1 rfl) ?_
  refine sp_vi0 (n := 1) SF hK hA (c_X5_isFloor l g a v t hM hI i0) gX5_slow_X5_isFloor rfl rfl rfl (by decide +kernel) rfl ⟨Nat.le_of_ble_eq_true rfl, Nat.le_of_ble_eq_true rfl⟩ 5 0 rfl rfl hP hD hS hl.1 rfl (Nat.le_of_ble_eq_true rfl) dX5_slow_2 (fun r9 u9 H locs hbb hP hD hS => ?_)
  obtain ⟨bb, rfl, hbb⟩ := hbb
  have hP : va_P g.1 vwCl (mdW g a v) H := hP
  have hD : va_D A (mdW g a v) := hD
  refine lv_if_ne (tgt := 11) hx hb dX5_slow_5 (by decide) (fun c1 => ?_) (fun c1 => ?_)
  · have c1 := sp_b0n.mp c1
    obtain ⟨j, hj, rfl⟩ := sp_has_t (hbb.symm.trans c1) hn8
    refine lv_iload_n hx hb dX5_slow_11 rfl (lv_at hl 2 rfl) ?_
    refine lv_iconst (v := nI 0) hx hb dX5_slow_12 (by decide) ?_
    refine lv_bipush (v := nI 9) hx hb dX5_slow_13 (by decide) ?_
    refine sp_si (n := 3) (wc := []) (wr := (mdW g a v)) SF hK hA (c_X5_in l g v0 (nI 0) (nI 9)) gX5_slow_X5_in rfl rfl rfl (by decide +kernel) rfl ⟨Nat.le_of_ble_eq_true rfl, Nat.le_of_ble_eq_true rfl⟩ hP hD hS hl.1 rfl (Nat.le_of_ble_eq_true rfl) dX5_slow_15 (fun r9 u9 H locs hb2 hP hD hS => ?_)
    obtain ⟨b2, rfl, hb2⟩ := hb2
    have hP : va_P g.1 vwCl (mdW g a v) H := hP
    have hD : va_D A (mdW g a v) := hD
    refine lv_if_ne (tgt := 24) hx hb dX5_slow_18 (by decide) (fun c2 => ?_) (fun c2 => ?_)
    · have c2 := sp_b0n.mp c2
      obtain ⟨n, h1, h2, rfl⟩ := sp_inI_t (by omega) (by omega) (hb2.symm.trans c2)
      refine lv_aload_n hx hb dX5_slow_24 rfl (lv_at hl 0 rfl) ?_
      refine sp_vv0 (n := 0) SF hK hA (c_X5_notes l g a v (t, z) hX B hJ (by omega)) gX5_slow_X5_notes rfl rfl rfl (by decide +kernel) rfl ⟨Nat.le_of_ble_eq_true rfl, Nat.le_of_ble_eq_true rfl⟩ 5 0 rfl rfl hP hD hS hl.1 rfl (Nat.le_of_ble_eq_true rfl) dX5_slow_25 (fun y1 H locs hy1 hP hD hS => ?_)
      have hP : va_P g.1 vwCl (mdW g a (v.1, v.2.1, y1.1, y1.2, v.2.2.2.2.1, v.2.2.2.2.2.1, v.2.2.2.2.2.2.1, v.2.2.2.2.2.2.2.1, v.2.2.2.2.2.2.2.2.1, v.2.2.2.2.2.2.2.2.2.1, v.2.2.2.2.2.2.2.2.2.2)) H := hP
      have hD : va_D A (mdW g a (v.1, v.2.1, y1.1, y1.2, v.2.2.2.2.1, v.2.2.2.2.2.1, v.2.2.2.2.2.2.1, v.2.2.2.2.2.2.2.1, v.2.2.2.2.2.2.2.2.1, v.2.2.2.2.2.2.2.2.2.1, v.2.2.2.2.2.2.2.2.2.2)) := hD
      refine lv_aload_n hx hb dX5_slow_28 rfl (lv_at hl 0 rfl) ?_
      refine lv_iload_n hx hb dX5_slow_29 rfl (lv_at hl 1 rfl) ?_
      refine lv_iconst (v := nI 1) hx hb dX5_slow_30 (by decide) ?_
      refine sp_vi0 (n := 2) SF hK hA (c_X5_of l g a (v.1, v.2.1, y1.1, y1.2, v.2.2.2.2.1, v.2.2.2.2.2.1, v.2.2.2.2.2.2.1, v.2.2.2.2.2.2.2.1, v.2.2.2.2.2.2.2.2.1, v.2.2.2.2.2.2.2.2.2.1, v.2.2.2.2.2.2.2.2.2.2) j 1 (by omega) (by omega)) gX5_slow_X5_of rfl rfl rfl (by decide +kernel) rfl ⟨Nat.le_of_ble_eq_true rfl, Nat.le_of_ble_eq_true rfl⟩ 5 0 rfl rfl hP hD hS hl.1 rfl (Nat.le_of_ble_eq_true rfl) dX5_slow_31 (fun r9 u9 H locs w1 hP hD hS => ?_)
      subst w1
      refine sp_top (y := nI (tsl t j)) (hM.sl hj) ?_
      have hP : va_P g.1 vwCl (mdW g a (v.1, v.2.1, y1.1, y1.2, v.2.2.2.2.1, v.2.2.2.2.2.1, v.2.2.2.2.2.2.1, v.2.2.2.2.2.2.2.1, v.2.2.2.2.2.2.2.2.1, v.2.2.2.2.2.2.2.2.2.1, v.2.2.2.2.2.2.2.2.2.2)) H := hP
      have hD : va_D A (mdW g a (v.1, v.2.1, y1.1, y1.2, v.2.2.2.2.1, v.2.2.2.2.2.1, v.2.2.2.2.2.2.1, v.2.2.2.2.2.2.2.1, v.2.2.2.2.2.2.2.2.1, v.2.2.2.2.2.2.2.2.2.1, v.2.2.2.2.2.2.2.2.2.2)) := hD
      refine lv_istore_n (lv' := [(3, .int (nI (tsl t j))), (0, .ref a.1), (1, .int (nI j)), (2, .int (nI n))]) hx hb dX5_slow_34 rfl hl (by decide) rfl (fun ls hl => ?_)
      refine lv_aload_n hx hb dX5_slow_35 rfl (lv_at hl 1 rfl) ?_
      refine lv_iload_n hx hb dX5_slow_36 rfl (lv_at hl 2 rfl) ?_
      refine lv_iconst (v := nI 1) hx hb dX5_slow_37 (by decide) ?_
      refine lv_iload_n hx hb dX5_slow_38 rfl (lv_at hl 3 rfl) ?_
      refine sp_vv0 (n := 3) SF hK hA (c_X5_put l g a (v.1, v.2.1, y1.1, y1.2, v.2.2.2.2.1, v.2.2.2.2.2.1, v.2.2.2.2.2.2.1, v.2.2.2.2.2.2.2.1, v.2.2.2.2.2.2.2.2.1, v.2.2.2.2.2.2.2.2.2.1, v.2.2.2.2.2.2.2.2.2.2) j 1 (by omega) (by omega) (nI n)) gX5_slow_X5_put rfl rfl rfl (by decide +kernel) rfl ⟨Nat.le_of_ble_eq_true rfl, Nat.le_of_ble_eq_true rfl⟩ 5 0 rfl rfl hP hD hS hl.1 rfl (Nat.le_of_ble_eq_true rfl) dX5_slow_39 (fun u9 H locs w2 hP hD hS => ?_)
      have hP : va_P g.1 vwCl (mdW g a ((upd v.1 (6 + 4 * j + 1) (nI n)), v.2.1, y1.1, y1.2, v.2.2.2.2.1, v.2.2.2.2.2.1, v.2.2.2.2.2.2.1, v.2.2.2.2.2.2.2.1, v.2.2.2.2.2.2.2.2.1, v.2.2.2.2.2.2.2.2.2.1, v.2.2.2.2.2.2.2.2.2.2)) H := hP
      have hD : va_D A (mdW g a ((upd v.1 (6 + 4 * j + 1) (nI n)), v.2.1, y1.1, y1.2, v.2.2.2.2.1, v.2.2.2.2.2.1, v.2.2.2.2.2.2.1, v.2.2.2.2.2.2.2.1, v.2.2.2.2.2.2.2.2.1, v.2.2.2.2.2.2.2.2.2.1, v.2.2.2.2.2.2.2.2.2.2)) := hD
      refine lv_iload_n hx hb dX5_slow_42 rfl (lv_at hl 0 rfl) ?_
      exact hend _ _ _ _ _ ((upd v.1 (6 + 4 * j + 1) (nI n)), v.2.1, y1.1, y1.2, v.2.2.2.2.1, v.2.2.2.2.2.1, v.2.2.2.2.2.2.1, v.2.2.2.2.2.2.2.1, v.2.2.2.2.2.2.2.2.1, v.2.2.2.2.2.2.2.2.2.1, v.2.2.2.2.2.2.2.2.2.2) dX5_slow_43 (sp_an (o_slow_y (x := (t, z)) hn8 hj h2) (sp_M_set hy1 (sp_Rm_sl hM j n))) hP hD hS
    · have c2 := sp_b0.mp c2
      refine lv_ldc (v := (-1000000002)) hx hb hown (hts _ (List.mem_of_getElem? (i := 2) rfl)) dX5_slow_21 ?_
      exact hend _ _ _ _ _ v dX5_slow_23 (sp_an (o_slow_o (x := (t, z)) hn8 hj (hb2.symm.trans c2)) hX) hP hD hS
  · have c1 := sp_b0.mp c1
    refine lv_ldc (v := (-1000000001)) hx hb hown (hts _ (List.mem_of_getElem? (i := 1) rfl)) dX5_slow_8 ?_
    exact hend _ _ _ _ _ v dX5_slow_10 (sp_an (o_slow_u (x := (t, z)) (hbb.symm.trans c1)) hX) hP hD hS

set_option maxHeartbeats 4000000 in
set_option maxRecDepth 100000 in
theorem c_X5_clear (l : Launch) (g : sp_G) (a : sp_A9) (v : sp_V) (x : sp_S) (hX : sp_M v x) (B : Nat) (hJ : sp_J x B) (hB : B ≤ 150000) : sp_CI l g yX5_clear wsX5_clear ({ frames := 1, cells := 0, slots := 0, locals := 21 }) [.ref a.1] (mdW g a v) (fun r (w : sp_V) => r = (o_clear x).1 ∧ sp_M w (o_clear x).2) (fun w => mdW g a w) := by
  obtain ⟨t, z⟩ := x
  refine sp_CI.of (cc := cX5_clear) (maxL := 2) (by decide) rfl (Nat.le_of_ble_eq_true rfl) ?_
  intro p e s m below meth c Q A ls SF hK hP hD hA hl hend
  have hx := SF.1
  have hb := SF.2.1
  have hown : s.vm.findClass RX5 = some m.cls := SF.2.2.2.1
  have hts := SF.2.2.2.2
  have hS : va_S A s.heap s.heap [] := va_S.rf
  have inX5 : ∀ w ∈ wsX50, w ∈ wsX5_clear := fun w h => List.mem_cons_of_mem _ (List.mem_append_right _ h)
  have hl : lv_has ls 2 [(0, .ref a.1)] := hl
  have hM : sp_Rm v.1 t := hX.now
  have hI : sp_I t := hJ.now
  have hn8 := hI.n
  have hdB : td t ≤ B := hJ.d
  refine lv_aload_n hx hb dX5_clear_0 rfl (lv_at hl 0 rfl) ?_
  refine sp_vv0 (n := 0) SF hK hA (c_X5_notes l g a v (t, z) hX B hJ (by omega)) gX5_clear_X5_notes rfl rfl rfl (by decide +kernel) rfl ⟨Nat.le_of_ble_eq_true rfl, Nat.le_of_ble_eq_true rfl⟩ 5 0 rfl rfl hP hD hS hl.1 rfl (Nat.le_of_ble_eq_true rfl) dX5_clear_1 (fun y1 H locs hy1 hP hD hS => ?_)
  have hP : va_P g.1 vwCl (mdW g a (v.1, v.2.1, y1.1, y1.2, v.2.2.2.2.1, v.2.2.2.2.2.1, v.2.2.2.2.2.2.1, v.2.2.2.2.2.2.2.1, v.2.2.2.2.2.2.2.2.1, v.2.2.2.2.2.2.2.2.2.1, v.2.2.2.2.2.2.2.2.2.2)) H := hP
  have hD : va_D A (mdW g a (v.1, v.2.1, y1.1, y1.2, v.2.2.2.2.1, v.2.2.2.2.2.1, v.2.2.2.2.2.2.1, v.2.2.2.2.2.2.2.1, v.2.2.2.2.2.2.2.2.1, v.2.2.2.2.2.2.2.2.2.1, v.2.2.2.2.2.2.2.2.2.2)) := hD
  refine lv_aload_n hx hb dX5_clear_4 rfl (lv_at hl 0 rfl) ?_
  refine va_get (D := g.1) (ci := 5) (v := .ref a.2.1) (C := RX5) (T := TX5) (N := 11) hx hb hts inX5 hown hK.1 hP 0 rfl rfl 0 (by decide) (hts _ (List.mem_of_getElem? (i := 1) rfl)) (fun _ h9 => h9) rfl dX5_clear_5 ?_
  refine lv_iconst (v := nI 1) hx hb dX5_clear_8 (by decide) ?_
  refine va_iald hx hb hK.1 hP 1 0 rfl rfl (vp_in_nI (by omega) (by omega)) dX5_clear_9 ?_
  refine sp_top (y := v.1 1) (congrArg v.1 (sp_c8 (k := 1) (by omega))) ?_
  refine sp_top (y := nI (tn t)) (hM.n) ?_
  refine lv_istore_n (lv' := [(1, .int (nI (tn t))), (0, .ref a.1)]) hx hb dX5_clear_10 rfl hl (by decide) rfl (fun ls hl => ?_)
  refine lv_aload_n hx hb dX5_clear_11 rfl (lv_at hl 1 rfl) ?_
  refine va_get (D := g.1) (ci := 5) (v := .ref a.2.1) (C := RX5) (T := TX5) (N := 11) hx hb hts inX5 hown hK.1 hP 0 rfl rfl 0 (by decide) (hts _ (List.mem_of_getElem? (i := 1) rfl)) (fun _ h9 => h9) rfl dX5_clear_12 ?_
  refine lv_iconst (v := nI 1) hx hb dX5_clear_15 (by decide) ?_
  refine lv_iconst (v := nI 0) hx hb dX5_clear_16 (by decide) ?_
  refine va_iast hx hb hK.1 hP hD hS 1 0 rfl rfl (vp_in_nI (by omega) (by omega)) dX5_clear_17 (fun H locs hP hD hS => ?_)
  rw [sp_c8 (k := 1) (by omega)] at hP hD
  have hP : va_P g.1 vwCl (mdW g a ((upd v.1 1 (nI 0)), v.2.1, y1.1, y1.2, v.2.2.2.2.1, v.2.2.2.2.2.1, v.2.2.2.2.2.2.1, v.2.2.2.2.2.2.2.1, v.2.2.2.2.2.2.2.2.1, v.2.2.2.2.2.2.2.2.2.1, v.2.2.2.2.2.2.2.2.2.2)) H := hP
  have hD : va_D A (mdW g a ((upd v.1 1 (nI 0)), v.2.1, y1.1, y1.2, v.2.2.2.2.1, v.2.2.2.2.2.1, v.2.2.2.2.2.2.1, v.2.2.2.2.2.2.2.1, v.2.2.2.2.2.2.2.2.1, v.2.2.2.2.2.2.2.2.2.1, v.2.2.2.2.2.2.2.2.2.2)) := hD
  refine lv_aload_n hx hb dX5_clear_18 rfl (lv_at hl 1 rfl) ?_
  refine va_get (D := g.1) (ci := 5) (v := .ref a.2.1) (C := RX5) (T := TX5) (N := 11) hx hb hts inX5 hown hK.1 hP 0 rfl rfl 0 (by decide) (hts _ (List.mem_of_getElem? (i := 1) rfl)) (fun _ h9 => h9) rfl dX5_clear_19 ?_
  refine lv_iconst (v := nI 0) hx hb dX5_clear_22 (by decide) ?_
  refine lv_iconst (v := nI 0) hx hb dX5_clear_23 (by decide) ?_
  refine va_iast hx hb hK.1 hP hD hS 1 0 rfl rfl (vp_in_nI (by omega) (by omega)) dX5_clear_24 (fun H locs hP hD hS => ?_)
  rw [sp_c8 (k := 0) (by omega)] at hP hD
  have hP : va_P g.1 vwCl (mdW g a ((upd (upd v.1 1 (nI 0)) 0 (nI 0)), v.2.1, y1.1, y1.2, v.2.2.2.2.1, v.2.2.2.2.2.1, v.2.2.2.2.2.2.1, v.2.2.2.2.2.2.2.1, v.2.2.2.2.2.2.2.2.1, v.2.2.2.2.2.2.2.2.2.1, v.2.2.2.2.2.2.2.2.2.2)) H := hP
  have hD : va_D A (mdW g a ((upd (upd v.1 1 (nI 0)) 0 (nI 0)), v.2.1, y1.1, y1.2, v.2.2.2.2.1, v.2.2.2.2.2.1, v.2.2.2.2.2.2.1, v.2.2.2.2.2.2.2.1, v.2.2.2.2.2.2.2.2.1, v.2.2.2.2.2.2.2.2.2.1, v.2.2.2.2.2.2.2.2.2.2)) := hD
  refine lv_iload_n hx hb dX5_clear_25 rfl (lv_at hl 0 rfl) ?_
  exact hend _ _ _ _ _ ((upd (upd v.1 1 (nI 0)) 0 (nI 0)), v.2.1, y1.1, y1.2, v.2.2.2.2.1, v.2.2.2.2.2.1, v.2.2.2.2.2.2.1, v.2.2.2.2.2.2.2.1, v.2.2.2.2.2.2.2.2.1, v.2.2.2.2.2.2.2.2.2.1, v.2.2.2.2.2.2.2.2.2.2) dX5_clear_26 (sp_an (p := o_clear (t, z)) rfl (sp_M_set hy1 (sp_Rm_clrn hM))) hP hD hS

set_option maxHeartbeats 4000000 in
set_option maxRecDepth 100000 in
theorem c_X5_bound (l : Launch) (g : sp_G) (a : sp_A9) (v : sp_V) (x : sp_S) (hX : sp_M v x) (B : Nat) (hJ : sp_J x B) (hB : B ≤ 150000) (w0 v0 : Int32) : sp_CI l g yX5_bound wsX5_bound ({ frames := 1, cells := 0, slots := 0, locals := 22 }) [.ref a.1, .int w0, .int v0] (mdW g a v) (fun r (w : sp_V) => r = (o_bound x w0 v0).1 ∧ sp_M w (o_bound x w0 v0).2) (fun w => mdW g a w) := by
  obtain ⟨t, z⟩ := x
  refine sp_CI.of (cc := cX5_bound) (maxL := 5) (by decide) rfl (Nat.le_of_ble_eq_true rfl) ?_
  intro p e s m below meth c Q A ls SF hK hP hD hA hl hend
  have hx := SF.1
  have hb := SF.2.1
  have hown : s.vm.findClass RX5 = some m.cls := SF.2.2.2.1
  have hts := SF.2.2.2.2
  have hS : va_S A s.heap s.heap [] := va_S.rf
  have inX5 : ∀ w ∈ wsX50, w ∈ wsX5_bound := fun w h => List.mem_cons_of_mem _ (List.mem_append_right _ h)
  have hl : lv_has ls 5 [(0, .ref a.1), (1, .int w0), (2, .int v0)] := hl
  have hM : sp_Rm v.1 t := hX.now
  have hI : sp_I t := hJ.now
  have hn8 := hI.n
  have hdB : td t ≤ B := hJ.d
  by_cases hsw : 0 ≤ w0.toInt ∧ w0.toInt ≤ (3 : Nat)
  · obtain ⟨k, hk, rfl⟩ := swI_ex (m := 3) hsw (by omega)
    rcases (show k = 0 ∨ k = 1 ∨ k = 2 ∨ k = 3 by omega) with rfl | rfl | rfl | rfl
    · have hbk := sp_bok_n (k := 0) hk v0
      refine lv_iload_n hx hb dX5_bound_0 rfl (lv_at hl 1 rfl) ?_
      refine lv_if_ne (tgt := 14) hx hb dX5_bound_1 (by decide) (fun c1 => ?_) (fun c1 => ?_)
      · have c1 := mt (sp_z_eq (by omega)).mpr c1
        exact absurd c1 (by omega)
      · have c1 := (sp_z_eq (by omega)).mp c1
        refine lv_iload_n hx hb dX5_bound_4 rfl (lv_at hl 2 rfl) ?_
        refine lv_iconst (v := nI 1) hx hb dX5_bound_5 (by decide) ?_
        refine lv_bipush (v := nI 50) hx hb dX5_bound_6 (by decide) ?_
        refine sp_si (n := 3) (wc := []) (wr := (mdW g a v)) SF hK hA (c_X5_in l g v0 (nI 1) (nI 50)) gX5_bound_X5_in rfl rfl rfl (by decide +kernel) rfl ⟨Nat.le_of_ble_eq_true rfl, Nat.le_of_ble_eq_true rfl⟩ hP hD hS hl.1 rfl (Nat.le_of_ble_eq_true rfl) dX5_bound_8 (fun r9 u9 H locs hbb hP hD hS => ?_)
        obtain ⟨bb, rfl, hbb⟩ := hbb
        have hP : va_P g.1 vwCl (mdW g a v) H := hP
        have hD : va_D A (mdW g a v) := hD
        refine lv_if_ne (tgt := 49) hx hb dX5_bound_11 (by decide) (fun ct => ?_) (fun ct => ?_)
        · have ct := sp_b0n.mp ct
          have hbt : sp_bok (nI 0) v0 = true := hbk.trans (hbb.symm.trans ct)
          obtain ⟨n, h1, h2, rfl⟩ := sp_inI_t (by omega) (by omega) (hbb.symm.trans ct)
          refine lv_iconst (v := nI 1) hx hb dX5_bound_49 (by decide) ?_
          refine lv_goto (tgt := 54) hx hb dX5_bound_50 (by decide) ?_
          refine lv_istore_n (lv' := [(3, .int (nI 1)), (0, .ref a.1), (1, .int (nI 0)), (2, .int (nI n))]) hx hb dX5_bound_54 rfl hl (by decide) rfl (fun ls hl => ?_)
          refine lv_iload_n hx hb dX5_bound_55 rfl (lv_at hl 0 rfl) ?_
          refine lv_if_ne (tgt := 62) hx hb dX5_bound_56 (by decide) (fun c1 => ?_) (fun c1 => ?_)
          · have c1 := mt (sp_z_eq (by omega)).mpr c1
            refine lv_iload_n hx hb dX5_bound_62 rfl (lv_at hl 2 rfl) ?_
            refine lv_if_ne (tgt := 78) hx hb dX5_bound_63 (by decide) (fun c2 => ?_) (fun c2 => ?_)
            · have c2 := mt (sp_z_eq (by omega)).mpr c2
              exact absurd c2 (by omega)
            · have c2 := (sp_z_eq (by omega)).mp c2
              refine lv_aload_n hx hb dX5_bound_66 rfl (lv_at hl 1 rfl) ?_
              refine va_get (D := g.1) (ci := 5) (v := .ref a.2.1) (C := RX5) (T := TX5) (N := 11) hx hb hts inX5 hown hK.1 hP 0 rfl rfl 0 (by decide) (hts _ (List.mem_of_getElem? (i := 2) rfl)) (fun _ h9 => h9) rfl dX5_bound_67 ?_
              refine lv_iconst (v := nI 1) hx hb dX5_bound_70 (by decide) ?_
              refine va_iald hx hb hK.1 hP 1 0 rfl rfl (vp_in_nI (by omega) (by omega)) dX5_bound_71 ?_
              refine sp_top (y := v.1 1) (congrArg v.1 (sp_c8 (k := 1) (by omega))) ?_
              refine sp_top (y := nI (tn t)) (hM.n) ?_
              refine lv_if_le (tgt := 78) hx hb dX5_bound_72 (by decide) (fun cn => ?_) (fun cn => ?_)
              · have cn := (sp_z_le (by omega)).mp cn
                refine lv_aload_n hx hb dX5_bound_78 rfl (lv_at hl 1 rfl) ?_
                refine sp_vv0 (n := 0) SF hK hA (c_X5_notes l g a v (t, z) hX B hJ (by omega)) gX5_bound_X5_notes rfl rfl rfl (by decide +kernel) rfl ⟨Nat.le_of_ble_eq_true rfl, Nat.le_of_ble_eq_true rfl⟩ 5 0 rfl rfl hP hD hS hl.1 rfl (Nat.le_of_ble_eq_true rfl) dX5_bound_79 (fun y1 H locs hy1 hP hD hS => ?_)
                have hP : va_P g.1 vwCl (mdW g a (v.1, v.2.1, y1.1, y1.2, v.2.2.2.2.1, v.2.2.2.2.2.1, v.2.2.2.2.2.2.1, v.2.2.2.2.2.2.2.1, v.2.2.2.2.2.2.2.2.1, v.2.2.2.2.2.2.2.2.2.1, v.2.2.2.2.2.2.2.2.2.2)) H := hP
                have hD : va_D A (mdW g a (v.1, v.2.1, y1.1, y1.2, v.2.2.2.2.1, v.2.2.2.2.2.1, v.2.2.2.2.2.2.1, v.2.2.2.2.2.2.2.1, v.2.2.2.2.2.2.2.2.1, v.2.2.2.2.2.2.2.2.2.1, v.2.2.2.2.2.2.2.2.2.2)) := hD
                refine lv_aload_n hx hb dX5_bound_82 rfl (lv_at hl 1 rfl) ?_
                refine va_get (D := g.1) (ci := 5) (v := .ref a.2.1) (C := RX5) (T := TX5) (N := 11) hx hb hts inX5 hown hK.1 hP 0 rfl rfl 0 (by decide) (hts _ (List.mem_of_getElem? (i := 2) rfl)) (fun _ h9 => h9) rfl dX5_bound_83 ?_
                refine lv_iconst (v := nI 2) hx hb dX5_bound_86 (by decide) ?_
                refine lv_iload_n hx hb dX5_bound_87 rfl (lv_at hl 2 rfl) ?_
                refine lv_iadd hx hb dX5_bound_88 ?_
                refine sp_top (y := nI (2 + 0)) (nI_add _ _) ?_
                refine va_iald hx hb hK.1 hP 1 0 rfl rfl (vp_in_nI (by omega) (by omega)) dX5_bound_89 ?_
                refine sp_top (y := v.1 (2 + 0)) (congrArg v.1 (sp_c8 (k := (2 + 0)) (by omega))) ?_
                refine sp_top (y := nI (sp_bget t 0)) (sp_Rm_bg hM (k := 0) (by omega)) ?_
                refine lv_istore (lv' := [(4, .int (nI (sp_bget t 0))), (3, .int (nI 1)), (0, .ref a.1), (1, .int (nI 0)), (2, .int (nI n))]) hx hb dX5_bound_90 hl (by decide) rfl (fun ls hl => ?_)
                refine lv_aload_n hx hb dX5_bound_92 rfl (lv_at hl 2 rfl) ?_
                refine va_get (D := g.1) (ci := 5) (v := .ref a.2.1) (C := RX5) (T := TX5) (N := 11) hx hb hts inX5 hown hK.1 hP 0 rfl rfl 0 (by decide) (hts _ (List.mem_of_getElem? (i := 2) rfl)) (fun _ h9 => h9) rfl dX5_bound_93 ?_
                refine lv_iconst (v := nI 2) hx hb dX5_bound_96 (by decide) ?_
                refine lv_iload_n hx hb dX5_bound_97 rfl (lv_at hl 3 rfl) ?_
                refine lv_iadd hx hb dX5_bound_98 ?_
                refine sp_top (y := nI (2 + 0)) (nI_add _ _) ?_
                refine lv_iload_n hx hb dX5_bound_99 rfl (lv_at hl 4 rfl) ?_
                refine va_iast hx hb hK.1 hP hD hS 1 0 rfl rfl (vp_in_nI (by omega) (by omega)) dX5_bound_100 (fun H locs hP hD hS => ?_)
                rw [sp_c8 (k := (2 + 0)) (by omega)] at hP hD
                have hP : va_P g.1 vwCl (mdW g a ((upd v.1 (2 + 0) (nI n)), v.2.1, y1.1, y1.2, v.2.2.2.2.1, v.2.2.2.2.2.1, v.2.2.2.2.2.2.1, v.2.2.2.2.2.2.2.1, v.2.2.2.2.2.2.2.2.1, v.2.2.2.2.2.2.2.2.2.1, v.2.2.2.2.2.2.2.2.2.2)) H := hP
                have hD : va_D A (mdW g a ((upd v.1 (2 + 0) (nI n)), v.2.1, y1.1, y1.2, v.2.2.2.2.1, v.2.2.2.2.2.1, v.2.2.2.2.2.2.1, v.2.2.2.2.2.2.2.1, v.2.2.2.2.2.2.2.2.1, v.2.2.2.2.2.2.2.2.2.1, v.2.2.2.2.2.2.2.2.2.2)) := hD
                refine lv_iload hx hb dX5_bound_101 (lv_at hl 0 rfl) ?_
                exact hend _ _ _ _ _ ((upd v.1 (2 + 0) (nI n)), v.2.1, y1.1, y1.2, v.2.2.2.2.1, v.2.2.2.2.2.1, v.2.2.2.2.2.2.1, v.2.2.2.2.2.2.2.1, v.2.2.2.2.2.2.2.2.1, v.2.2.2.2.2.2.2.2.2.1, v.2.2.2.2.2.2.2.2.2.2) dX5_bound_103 (sp_an (o_bound_y (x := (t, z)) (k := 0) hk hbt (by omega) (fun q => by have : 0 < tn t := q.2; omega)) (sp_M_set hy1 (sp_Rm_b hM (k := 0) (by omega) n))) hP hD hS
              · have cn := mt (sp_z_le (by omega)).mpr cn
                refine lv_ldc (v := (-1000000003)) hx hb hown (hts _ (List.mem_of_getElem? (i := 3) rfl)) dX5_bound_75 ?_
                exact hend _ _ _ _ _ v dX5_bound_77 (sp_an (o_bound_n (x := (t, z)) hbt (by show 0 < tn t; omega)) hX) hP hD hS
          · have c1 := (sp_z_eq (by omega)).mp c1
            exact absurd c1 (by omega)
        · have ct := sp_b0.mp ct
          have hbf : sp_bok (nI 0) v0 = false := hbk.trans (hbb.symm.trans ct)
          refine lv_iload_n hx hb dX5_bound_14 rfl (lv_at hl 1 rfl) ?_
          refine lv_iconst (v := nI 1) hx hb dX5_bound_15 (by decide) ?_
          refine lv_icmp_ne (tgt := 30) hx hb dX5_bound_16 (by decide) (fun c16 => ?_) (fun c16 => ?_)
          · have c16 := mt (nI_eq (by omega) (by omega)).mpr c16
            refine lv_iload_n hx hb dX5_bound_30 rfl (lv_at hl 1 rfl) ?_
            refine lv_iconst (v := nI 2) hx hb dX5_bound_31 (by decide) ?_
            refine lv_icmp_eq (tgt := 40) hx hb dX5_bound_32 (by decide) (fun c32 => ?_) (fun c32 => ?_)
            · have c32 := (nI_eq (by omega) (by omega)).mp c32
              exact absurd c32 (by omega)
            · have c32 := mt (nI_eq (by omega) (by omega)).mpr c32
              refine lv_iload_n hx hb dX5_bound_35 rfl (lv_at hl 1 rfl) ?_
              refine lv_iconst (v := nI 3) hx hb dX5_bound_36 (by decide) ?_
              refine lv_icmp_ne (tgt := 53) hx hb dX5_bound_37 (by decide) (fun c37 => ?_) (fun c37 => ?_)
              · have c37 := mt (nI_eq (by omega) (by omega)).mpr c37
                refine lv_iconst (v := nI 0) hx hb dX5_bound_53 (by decide) ?_
                refine lv_istore_n (lv' := [(3, .int (nI 0)), (0, .ref a.1), (1, .int (nI 0)), (2, .int v0)]) hx hb dX5_bound_54 rfl hl (by decide) rfl (fun ls hl => ?_)
                refine lv_iload_n hx hb dX5_bound_55 rfl (lv_at hl 0 rfl) ?_
                refine lv_if_ne (tgt := 62) hx hb dX5_bound_56 (by decide) (fun c3 => ?_) (fun c3 => ?_)
                · have c3 := mt (sp_z_eq (by omega)).mpr c3
                  exact absurd c3 (by omega)
                · have c3 := (sp_z_eq (by omega)).mp c3
                  refine lv_ldc (v := (-1000000002)) hx hb hown (hts _ (List.mem_of_getElem? (i := 1) rfl)) dX5_bound_59 ?_
                  exact hend _ _ _ _ _ v dX5_bound_61 (sp_an (o_bound_o (x := (t, z)) hbf) hX) hP hD hS
              · have c37 := (nI_eq (by omega) (by omega)).mp c37
                exact absurd c37 (by omega)
          · have c16 := (nI_eq (by omega) (by omega)).mp c16
            exact absurd c16 (by omega)
    · have hbk := sp_bok_n (k := 1) hk v0
      refine lv_iload_n hx hb dX5_bound_0 rfl (lv_at hl 1 rfl) ?_
      refine lv_if_ne (tgt := 14) hx hb dX5_bound_1 (by decide) (fun c1 => ?_) (fun c1 => ?_)
      · have c1 := mt (sp_z_eq (by omega)).mpr c1
        refine lv_iload_n hx hb dX5_bound_14 rfl (lv_at hl 1 rfl) ?_
        refine lv_iconst (v := nI 1) hx hb dX5_bound_15 (by decide) ?_
        refine lv_icmp_ne (tgt := 30) hx hb dX5_bound_16 (by decide) (fun c16 => ?_) (fun c16 => ?_)
        · have c16 := mt (nI_eq (by omega) (by omega)).mpr c16
          exact absurd c16 (by omega)
        · have c16 := (nI_eq (by omega) (by omega)).mp c16
          refine lv_iload_n hx hb dX5_bound_19 rfl (lv_at hl 2 rfl) ?_
          refine lv_iconst (v := nI 1) hx hb dX5_bound_20 (by decide) ?_
          refine lv_sipush (v := nI 400) hx hb dX5_bound_21 (by decide) ?_
          refine sp_si (n := 3) (wc := []) (wr := (mdW g a v)) SF hK hA (c_X5_in l g v0 (nI 1) (nI 400)) gX5_bound_X5_in rfl rfl rfl (by decide +kernel) rfl ⟨Nat.le_of_ble_eq_true rfl, Nat.le_of_ble_eq_true rfl⟩ hP hD hS hl.1 rfl (Nat.le_of_ble_eq_true rfl) dX5_bound_24 (fun r9 u9 H locs hbb hP hD hS => ?_)
          obtain ⟨bb, rfl, hbb⟩ := hbb
          have hP : va_P g.1 vwCl (mdW g a v) H := hP
          have hD : va_D A (mdW g a v) := hD
          refine lv_if_ne (tgt := 49) hx hb dX5_bound_27 (by decide) (fun ct => ?_) (fun ct => ?_)
          · have ct := sp_b0n.mp ct
            have hbt : sp_bok (nI 1) v0 = true := hbk.trans (hbb.symm.trans ct)
            obtain ⟨n, h1, h2, rfl⟩ := sp_inI_t (by omega) (by omega) (hbb.symm.trans ct)
            refine lv_iconst (v := nI 1) hx hb dX5_bound_49 (by decide) ?_
            refine lv_goto (tgt := 54) hx hb dX5_bound_50 (by decide) ?_
            refine lv_istore_n (lv' := [(3, .int (nI 1)), (0, .ref a.1), (1, .int (nI 1)), (2, .int (nI n))]) hx hb dX5_bound_54 rfl hl (by decide) rfl (fun ls hl => ?_)
            refine lv_iload_n hx hb dX5_bound_55 rfl (lv_at hl 0 rfl) ?_
            refine lv_if_ne (tgt := 62) hx hb dX5_bound_56 (by decide) (fun c4 => ?_) (fun c4 => ?_)
            · have c4 := mt (sp_z_eq (by omega)).mpr c4
              refine lv_iload_n hx hb dX5_bound_62 rfl (lv_at hl 2 rfl) ?_
              refine lv_if_ne (tgt := 78) hx hb dX5_bound_63 (by decide) (fun c5 => ?_) (fun c5 => ?_)
              · have c5 := mt (sp_z_eq (by omega)).mpr c5
                refine lv_aload_n hx hb dX5_bound_78 rfl (lv_at hl 1 rfl) ?_
                refine sp_vv0 (n := 0) SF hK hA (c_X5_notes l g a v (t, z) hX B hJ (by omega)) gX5_bound_X5_notes rfl rfl rfl (by decide +kernel) rfl ⟨Nat.le_of_ble_eq_true rfl, Nat.le_of_ble_eq_true rfl⟩ 5 0 rfl rfl hP hD hS hl.1 rfl (Nat.le_of_ble_eq_true rfl) dX5_bound_79 (fun y1 H locs hy1 hP hD hS => ?_)
                have hP : va_P g.1 vwCl (mdW g a (v.1, v.2.1, y1.1, y1.2, v.2.2.2.2.1, v.2.2.2.2.2.1, v.2.2.2.2.2.2.1, v.2.2.2.2.2.2.2.1, v.2.2.2.2.2.2.2.2.1, v.2.2.2.2.2.2.2.2.2.1, v.2.2.2.2.2.2.2.2.2.2)) H := hP
                have hD : va_D A (mdW g a (v.1, v.2.1, y1.1, y1.2, v.2.2.2.2.1, v.2.2.2.2.2.1, v.2.2.2.2.2.2.1, v.2.2.2.2.2.2.2.1, v.2.2.2.2.2.2.2.2.1, v.2.2.2.2.2.2.2.2.2.1, v.2.2.2.2.2.2.2.2.2.2)) := hD
                refine lv_aload_n hx hb dX5_bound_82 rfl (lv_at hl 1 rfl) ?_
                refine va_get (D := g.1) (ci := 5) (v := .ref a.2.1) (C := RX5) (T := TX5) (N := 11) hx hb hts inX5 hown hK.1 hP 0 rfl rfl 0 (by decide) (hts _ (List.mem_of_getElem? (i := 2) rfl)) (fun _ h9 => h9) rfl dX5_bound_83 ?_
                refine lv_iconst (v := nI 2) hx hb dX5_bound_86 (by decide) ?_
                refine lv_iload_n hx hb dX5_bound_87 rfl (lv_at hl 2 rfl) ?_
                refine lv_iadd hx hb dX5_bound_88 ?_
                refine sp_top (y := nI (2 + 1)) (nI_add _ _) ?_
                refine va_iald hx hb hK.1 hP 1 0 rfl rfl (vp_in_nI (by omega) (by omega)) dX5_bound_89 ?_
                refine sp_top (y := v.1 (2 + 1)) (congrArg v.1 (sp_c8 (k := (2 + 1)) (by omega))) ?_
                refine sp_top (y := nI (sp_bget t 1)) (sp_Rm_bg hM (k := 1) (by omega)) ?_
                refine lv_istore (lv' := [(4, .int (nI (sp_bget t 1))), (3, .int (nI 1)), (0, .ref a.1), (1, .int (nI 1)), (2, .int (nI n))]) hx hb dX5_bound_90 hl (by decide) rfl (fun ls hl => ?_)
                refine lv_aload_n hx hb dX5_bound_92 rfl (lv_at hl 2 rfl) ?_
                refine va_get (D := g.1) (ci := 5) (v := .ref a.2.1) (C := RX5) (T := TX5) (N := 11) hx hb hts inX5 hown hK.1 hP 0 rfl rfl 0 (by decide) (hts _ (List.mem_of_getElem? (i := 2) rfl)) (fun _ h9 => h9) rfl dX5_bound_93 ?_
                refine lv_iconst (v := nI 2) hx hb dX5_bound_96 (by decide) ?_
                refine lv_iload_n hx hb dX5_bound_97 rfl (lv_at hl 3 rfl) ?_
                refine lv_iadd hx hb dX5_bound_98 ?_
                refine sp_top (y := nI (2 + 1)) (nI_add _ _) ?_
                refine lv_iload_n hx hb dX5_bound_99 rfl (lv_at hl 4 rfl) ?_
                refine va_iast hx hb hK.1 hP hD hS 1 0 rfl rfl (vp_in_nI (by omega) (by omega)) dX5_bound_100 (fun H locs hP hD hS => ?_)
                rw [sp_c8 (k := (2 + 1)) (by omega)] at hP hD
                have hP : va_P g.1 vwCl (mdW g a ((upd v.1 (2 + 1) (nI n)), v.2.1, y1.1, y1.2, v.2.2.2.2.1, v.2.2.2.2.2.1, v.2.2.2.2.2.2.1, v.2.2.2.2.2.2.2.1, v.2.2.2.2.2.2.2.2.1, v.2.2.2.2.2.2.2.2.2.1, v.2.2.2.2.2.2.2.2.2.2)) H := hP
                have hD : va_D A (mdW g a ((upd v.1 (2 + 1) (nI n)), v.2.1, y1.1, y1.2, v.2.2.2.2.1, v.2.2.2.2.2.1, v.2.2.2.2.2.2.1, v.2.2.2.2.2.2.2.1, v.2.2.2.2.2.2.2.2.1, v.2.2.2.2.2.2.2.2.2.1, v.2.2.2.2.2.2.2.2.2.2)) := hD
                refine lv_iload hx hb dX5_bound_101 (lv_at hl 0 rfl) ?_
                exact hend _ _ _ _ _ ((upd v.1 (2 + 1) (nI n)), v.2.1, y1.1, y1.2, v.2.2.2.2.1, v.2.2.2.2.2.1, v.2.2.2.2.2.2.1, v.2.2.2.2.2.2.2.1, v.2.2.2.2.2.2.2.2.1, v.2.2.2.2.2.2.2.2.2.1, v.2.2.2.2.2.2.2.2.2.2) dX5_bound_103 (sp_an (o_bound_y (x := (t, z)) (k := 1) hk hbt (by omega) (fun q => by omega)) (sp_M_set hy1 (sp_Rm_b hM (k := 1) (by omega) n))) hP hD hS
              · have c5 := (sp_z_eq (by omega)).mp c5
                exact absurd c5 (by omega)
            · have c4 := (sp_z_eq (by omega)).mp c4
              exact absurd c4 (by omega)
          · have ct := sp_b0.mp ct
            have hbf : sp_bok (nI 1) v0 = false := hbk.trans (hbb.symm.trans ct)
            refine lv_iload_n hx hb dX5_bound_30 rfl (lv_at hl 1 rfl) ?_
            refine lv_iconst (v := nI 2) hx hb dX5_bound_31 (by decide) ?_
            refine lv_icmp_eq (tgt := 40) hx hb dX5_bound_32 (by decide) (fun c32 => ?_) (fun c32 => ?_)
            · have c32 := (nI_eq (by omega) (by omega)).mp c32
              exact absurd c32 (by omega)
            · have c32 := mt (nI_eq (by omega) (by omega)).mpr c32
              refine lv_iload_n hx hb dX5_bound_35 rfl (lv_at hl 1 rfl) ?_
              refine lv_iconst (v := nI 3) hx hb dX5_bound_36 (by decide) ?_
              refine lv_icmp_ne (tgt := 53) hx hb dX5_bound_37 (by decide) (fun c37 => ?_) (fun c37 => ?_)
              · have c37 := mt (nI_eq (by omega) (by omega)).mpr c37
                refine lv_iconst (v := nI 0) hx hb dX5_bound_53 (by decide) ?_
                refine lv_istore_n (lv' := [(3, .int (nI 0)), (0, .ref a.1), (1, .int (nI 1)), (2, .int v0)]) hx hb dX5_bound_54 rfl hl (by decide) rfl (fun ls hl => ?_)
                refine lv_iload_n hx hb dX5_bound_55 rfl (lv_at hl 0 rfl) ?_
                refine lv_if_ne (tgt := 62) hx hb dX5_bound_56 (by decide) (fun c6 => ?_) (fun c6 => ?_)
                · have c6 := mt (sp_z_eq (by omega)).mpr c6
                  exact absurd c6 (by omega)
                · have c6 := (sp_z_eq (by omega)).mp c6
                  refine lv_ldc (v := (-1000000002)) hx hb hown (hts _ (List.mem_of_getElem? (i := 1) rfl)) dX5_bound_59 ?_
                  exact hend _ _ _ _ _ v dX5_bound_61 (sp_an (o_bound_o (x := (t, z)) hbf) hX) hP hD hS
              · have c37 := (nI_eq (by omega) (by omega)).mp c37
                exact absurd c37 (by omega)
      · have c1 := (sp_z_eq (by omega)).mp c1
        exact absurd c1 (by omega)
    · have hbk := sp_bok_n (k := 2) hk v0
      refine lv_iload_n hx hb dX5_bound_0 rfl (lv_at hl 1 rfl) ?_
      refine lv_if_ne (tgt := 14) hx hb dX5_bound_1 (by decide) (fun c1 => ?_) (fun c1 => ?_)
      · have c1 := mt (sp_z_eq (by omega)).mpr c1
        refine lv_iload_n hx hb dX5_bound_14 rfl (lv_at hl 1 rfl) ?_
        refine lv_iconst (v := nI 1) hx hb dX5_bound_15 (by decide) ?_
        refine lv_icmp_ne (tgt := 30) hx hb dX5_bound_16 (by decide) (fun c16 => ?_) (fun c16 => ?_)
        · have c16 := mt (nI_eq (by omega) (by omega)).mpr c16
          refine lv_iload_n hx hb dX5_bound_30 rfl (lv_at hl 1 rfl) ?_
          refine lv_iconst (v := nI 2) hx hb dX5_bound_31 (by decide) ?_
          refine lv_icmp_eq (tgt := 40) hx hb dX5_bound_32 (by decide) (fun c32 => ?_) (fun c32 => ?_)
          · have c32 := (nI_eq (by omega) (by omega)).mp c32
            refine lv_iload_n hx hb dX5_bound_40 rfl (lv_at hl 2 rfl) ?_
            refine lv_iconst (v := nI 0) hx hb dX5_bound_41 (by decide) ?_
            refine lv_iconst (v := nI 2) hx hb dX5_bound_42 (by decide) ?_
            refine sp_si (n := 3) (wc := []) (wr := (mdW g a v)) SF hK hA (c_X5_in l g v0 (nI 0) (nI 2)) gX5_bound_X5_in rfl rfl rfl (by decide +kernel) rfl ⟨Nat.le_of_ble_eq_true rfl, Nat.le_of_ble_eq_true rfl⟩ hP hD hS hl.1 rfl (Nat.le_of_ble_eq_true rfl) dX5_bound_43 (fun r9 u9 H locs hbb hP hD hS => ?_)
            obtain ⟨bb, rfl, hbb⟩ := hbb
            have hP : va_P g.1 vwCl (mdW g a v) H := hP
            have hD : va_D A (mdW g a v) := hD
            refine lv_if_eq (tgt := 53) hx hb dX5_bound_46 (by decide) (fun ct => ?_) (fun ct => ?_)
            · have ct := sp_b0.mp ct
              have hbf : sp_bok (nI 2) v0 = false := hbk.trans (hbb.symm.trans ct)
              refine lv_iconst (v := nI 0) hx hb dX5_bound_53 (by decide) ?_
              refine lv_istore_n (lv' := [(3, .int (nI 0)), (0, .ref a.1), (1, .int (nI 2)), (2, .int v0)]) hx hb dX5_bound_54 rfl hl (by decide) rfl (fun ls hl => ?_)
              refine lv_iload_n hx hb dX5_bound_55 rfl (lv_at hl 0 rfl) ?_
              refine lv_if_ne (tgt := 62) hx hb dX5_bound_56 (by decide) (fun c7 => ?_) (fun c7 => ?_)
              · have c7 := mt (sp_z_eq (by omega)).mpr c7
                exact absurd c7 (by omega)
              · have c7 := (sp_z_eq (by omega)).mp c7
                refine lv_ldc (v := (-1000000002)) hx hb hown (hts _ (List.mem_of_getElem? (i := 1) rfl)) dX5_bound_59 ?_
                exact hend _ _ _ _ _ v dX5_bound_61 (sp_an (o_bound_o (x := (t, z)) hbf) hX) hP hD hS
            · have ct := sp_b0n.mp ct
              have hbt : sp_bok (nI 2) v0 = true := hbk.trans (hbb.symm.trans ct)
              obtain ⟨n, h1, h2, rfl⟩ := sp_inI_t (by omega) (by omega) (hbb.symm.trans ct)
              refine lv_iconst (v := nI 1) hx hb dX5_bound_49 (by decide) ?_
              refine lv_goto (tgt := 54) hx hb dX5_bound_50 (by decide) ?_
              refine lv_istore_n (lv' := [(3, .int (nI 1)), (0, .ref a.1), (1, .int (nI 2)), (2, .int (nI n))]) hx hb dX5_bound_54 rfl hl (by decide) rfl (fun ls hl => ?_)
              refine lv_iload_n hx hb dX5_bound_55 rfl (lv_at hl 0 rfl) ?_
              refine lv_if_ne (tgt := 62) hx hb dX5_bound_56 (by decide) (fun c8 => ?_) (fun c8 => ?_)
              · have c8 := mt (sp_z_eq (by omega)).mpr c8
                refine lv_iload_n hx hb dX5_bound_62 rfl (lv_at hl 2 rfl) ?_
                refine lv_if_ne (tgt := 78) hx hb dX5_bound_63 (by decide) (fun c9 => ?_) (fun c9 => ?_)
                · have c9 := mt (sp_z_eq (by omega)).mpr c9
                  refine lv_aload_n hx hb dX5_bound_78 rfl (lv_at hl 1 rfl) ?_
                  refine sp_vv0 (n := 0) SF hK hA (c_X5_notes l g a v (t, z) hX B hJ (by omega)) gX5_bound_X5_notes rfl rfl rfl (by decide +kernel) rfl ⟨Nat.le_of_ble_eq_true rfl, Nat.le_of_ble_eq_true rfl⟩ 5 0 rfl rfl hP hD hS hl.1 rfl (Nat.le_of_ble_eq_true rfl) dX5_bound_79 (fun y1 H locs hy1 hP hD hS => ?_)
                  have hP : va_P g.1 vwCl (mdW g a (v.1, v.2.1, y1.1, y1.2, v.2.2.2.2.1, v.2.2.2.2.2.1, v.2.2.2.2.2.2.1, v.2.2.2.2.2.2.2.1, v.2.2.2.2.2.2.2.2.1, v.2.2.2.2.2.2.2.2.2.1, v.2.2.2.2.2.2.2.2.2.2)) H := hP
                  have hD : va_D A (mdW g a (v.1, v.2.1, y1.1, y1.2, v.2.2.2.2.1, v.2.2.2.2.2.1, v.2.2.2.2.2.2.1, v.2.2.2.2.2.2.2.1, v.2.2.2.2.2.2.2.2.1, v.2.2.2.2.2.2.2.2.2.1, v.2.2.2.2.2.2.2.2.2.2)) := hD
                  refine lv_aload_n hx hb dX5_bound_82 rfl (lv_at hl 1 rfl) ?_
                  refine va_get (D := g.1) (ci := 5) (v := .ref a.2.1) (C := RX5) (T := TX5) (N := 11) hx hb hts inX5 hown hK.1 hP 0 rfl rfl 0 (by decide) (hts _ (List.mem_of_getElem? (i := 2) rfl)) (fun _ h9 => h9) rfl dX5_bound_83 ?_
                  refine lv_iconst (v := nI 2) hx hb dX5_bound_86 (by decide) ?_
                  refine lv_iload_n hx hb dX5_bound_87 rfl (lv_at hl 2 rfl) ?_
                  refine lv_iadd hx hb dX5_bound_88 ?_
                  refine sp_top (y := nI (2 + 2)) (nI_add _ _) ?_
                  refine va_iald hx hb hK.1 hP 1 0 rfl rfl (vp_in_nI (by omega) (by omega)) dX5_bound_89 ?_
                  refine sp_top (y := v.1 (2 + 2)) (congrArg v.1 (sp_c8 (k := (2 + 2)) (by omega))) ?_
                  refine sp_top (y := nI (sp_bget t 2)) (sp_Rm_bg hM (k := 2) (by omega)) ?_
                  refine lv_istore (lv' := [(4, .int (nI (sp_bget t 2))), (3, .int (nI 1)), (0, .ref a.1), (1, .int (nI 2)), (2, .int (nI n))]) hx hb dX5_bound_90 hl (by decide) rfl (fun ls hl => ?_)
                  refine lv_aload_n hx hb dX5_bound_92 rfl (lv_at hl 2 rfl) ?_
                  refine va_get (D := g.1) (ci := 5) (v := .ref a.2.1) (C := RX5) (T := TX5) (N := 11) hx hb hts inX5 hown hK.1 hP 0 rfl rfl 0 (by decide) (hts _ (List.mem_of_getElem? (i := 2) rfl)) (fun _ h9 => h9) rfl dX5_bound_93 ?_
                  refine lv_iconst (v := nI 2) hx hb dX5_bound_96 (by decide) ?_
                  refine lv_iload_n hx hb dX5_bound_97 rfl (lv_at hl 3 rfl) ?_
                  refine lv_iadd hx hb dX5_bound_98 ?_
                  refine sp_top (y := nI (2 + 2)) (nI_add _ _) ?_
                  refine lv_iload_n hx hb dX5_bound_99 rfl (lv_at hl 4 rfl) ?_
                  refine va_iast hx hb hK.1 hP hD hS 1 0 rfl rfl (vp_in_nI (by omega) (by omega)) dX5_bound_100 (fun H locs hP hD hS => ?_)
                  rw [sp_c8 (k := (2 + 2)) (by omega)] at hP hD
                  have hP : va_P g.1 vwCl (mdW g a ((upd v.1 (2 + 2) (nI n)), v.2.1, y1.1, y1.2, v.2.2.2.2.1, v.2.2.2.2.2.1, v.2.2.2.2.2.2.1, v.2.2.2.2.2.2.2.1, v.2.2.2.2.2.2.2.2.1, v.2.2.2.2.2.2.2.2.2.1, v.2.2.2.2.2.2.2.2.2.2)) H := hP
                  have hD : va_D A (mdW g a ((upd v.1 (2 + 2) (nI n)), v.2.1, y1.1, y1.2, v.2.2.2.2.1, v.2.2.2.2.2.1, v.2.2.2.2.2.2.1, v.2.2.2.2.2.2.2.1, v.2.2.2.2.2.2.2.2.1, v.2.2.2.2.2.2.2.2.2.1, v.2.2.2.2.2.2.2.2.2.2)) := hD
                  refine lv_iload hx hb dX5_bound_101 (lv_at hl 0 rfl) ?_
                  exact hend _ _ _ _ _ ((upd v.1 (2 + 2) (nI n)), v.2.1, y1.1, y1.2, v.2.2.2.2.1, v.2.2.2.2.2.1, v.2.2.2.2.2.2.1, v.2.2.2.2.2.2.2.1, v.2.2.2.2.2.2.2.2.1, v.2.2.2.2.2.2.2.2.2.1, v.2.2.2.2.2.2.2.2.2.2) dX5_bound_103 (sp_an (o_bound_y (x := (t, z)) (k := 2) hk hbt (by omega) (fun q => by omega)) (sp_M_set hy1 (sp_Rm_b hM (k := 2) (by omega) n))) hP hD hS
                · have c9 := (sp_z_eq (by omega)).mp c9
                  exact absurd c9 (by omega)
              · have c8 := (sp_z_eq (by omega)).mp c8
                exact absurd c8 (by omega)
          · have c32 := mt (nI_eq (by omega) (by omega)).mpr c32
            exact absurd c32 (by omega)
        · have c16 := (nI_eq (by omega) (by omega)).mp c16
          exact absurd c16 (by omega)
      · have c1 := (sp_z_eq (by omega)).mp c1
        exact absurd c1 (by omega)
    · have hbk := sp_bok_n (k := 3) hk v0
      refine lv_iload_n hx hb dX5_bound_0 rfl (lv_at hl 1 rfl) ?_
      refine lv_if_ne (tgt := 14) hx hb dX5_bound_1 (by decide) (fun c1 => ?_) (fun c1 => ?_)
      · have c1 := mt (sp_z_eq (by omega)).mpr c1
        refine lv_iload_n hx hb dX5_bound_14 rfl (lv_at hl 1 rfl) ?_
        refine lv_iconst (v := nI 1) hx hb dX5_bound_15 (by decide) ?_
        refine lv_icmp_ne (tgt := 30) hx hb dX5_bound_16 (by decide) (fun c16 => ?_) (fun c16 => ?_)
        · have c16 := mt (nI_eq (by omega) (by omega)).mpr c16
          refine lv_iload_n hx hb dX5_bound_30 rfl (lv_at hl 1 rfl) ?_
          refine lv_iconst (v := nI 2) hx hb dX5_bound_31 (by decide) ?_
          refine lv_icmp_eq (tgt := 40) hx hb dX5_bound_32 (by decide) (fun c32 => ?_) (fun c32 => ?_)
          · have c32 := (nI_eq (by omega) (by omega)).mp c32
            exact absurd c32 (by omega)
          · have c32 := mt (nI_eq (by omega) (by omega)).mpr c32
            refine lv_iload_n hx hb dX5_bound_35 rfl (lv_at hl 1 rfl) ?_
            refine lv_iconst (v := nI 3) hx hb dX5_bound_36 (by decide) ?_
            refine lv_icmp_ne (tgt := 53) hx hb dX5_bound_37 (by decide) (fun c37 => ?_) (fun c37 => ?_)
            · have c37 := mt (nI_eq (by omega) (by omega)).mpr c37
              exact absurd c37 (by omega)
            · have c37 := (nI_eq (by omega) (by omega)).mp c37
              refine lv_iload_n hx hb dX5_bound_40 rfl (lv_at hl 2 rfl) ?_
              refine lv_iconst (v := nI 0) hx hb dX5_bound_41 (by decide) ?_
              refine lv_iconst (v := nI 2) hx hb dX5_bound_42 (by decide) ?_
              refine sp_si (n := 3) (wc := []) (wr := (mdW g a v)) SF hK hA (c_X5_in l g v0 (nI 0) (nI 2)) gX5_bound_X5_in rfl rfl rfl (by decide +kernel) rfl ⟨Nat.le_of_ble_eq_true rfl, Nat.le_of_ble_eq_true rfl⟩ hP hD hS hl.1 rfl (Nat.le_of_ble_eq_true rfl) dX5_bound_43 (fun r9 u9 H locs hbb hP hD hS => ?_)
              obtain ⟨bb, rfl, hbb⟩ := hbb
              have hP : va_P g.1 vwCl (mdW g a v) H := hP
              have hD : va_D A (mdW g a v) := hD
              refine lv_if_eq (tgt := 53) hx hb dX5_bound_46 (by decide) (fun ct => ?_) (fun ct => ?_)
              · have ct := sp_b0.mp ct
                have hbf : sp_bok (nI 3) v0 = false := hbk.trans (hbb.symm.trans ct)
                refine lv_iconst (v := nI 0) hx hb dX5_bound_53 (by decide) ?_
                refine lv_istore_n (lv' := [(3, .int (nI 0)), (0, .ref a.1), (1, .int (nI 3)), (2, .int v0)]) hx hb dX5_bound_54 rfl hl (by decide) rfl (fun ls hl => ?_)
                refine lv_iload_n hx hb dX5_bound_55 rfl (lv_at hl 0 rfl) ?_
                refine lv_if_ne (tgt := 62) hx hb dX5_bound_56 (by decide) (fun c10 => ?_) (fun c10 => ?_)
                · have c10 := mt (sp_z_eq (by omega)).mpr c10
                  exact absurd c10 (by omega)
                · have c10 := (sp_z_eq (by omega)).mp c10
                  refine lv_ldc (v := (-1000000002)) hx hb hown (hts _ (List.mem_of_getElem? (i := 1) rfl)) dX5_bound_59 ?_
                  exact hend _ _ _ _ _ v dX5_bound_61 (sp_an (o_bound_o (x := (t, z)) hbf) hX) hP hD hS
              · have ct := sp_b0n.mp ct
                have hbt : sp_bok (nI 3) v0 = true := hbk.trans (hbb.symm.trans ct)
                obtain ⟨n, h1, h2, rfl⟩ := sp_inI_t (by omega) (by omega) (hbb.symm.trans ct)
                refine lv_iconst (v := nI 1) hx hb dX5_bound_49 (by decide) ?_
                refine lv_goto (tgt := 54) hx hb dX5_bound_50 (by decide) ?_
                refine lv_istore_n (lv' := [(3, .int (nI 1)), (0, .ref a.1), (1, .int (nI 3)), (2, .int (nI n))]) hx hb dX5_bound_54 rfl hl (by decide) rfl (fun ls hl => ?_)
                refine lv_iload_n hx hb dX5_bound_55 rfl (lv_at hl 0 rfl) ?_
                refine lv_if_ne (tgt := 62) hx hb dX5_bound_56 (by decide) (fun c11 => ?_) (fun c11 => ?_)
                · have c11 := mt (sp_z_eq (by omega)).mpr c11
                  refine lv_iload_n hx hb dX5_bound_62 rfl (lv_at hl 2 rfl) ?_
                  refine lv_if_ne (tgt := 78) hx hb dX5_bound_63 (by decide) (fun c12 => ?_) (fun c12 => ?_)
                  · have c12 := mt (sp_z_eq (by omega)).mpr c12
                    refine lv_aload_n hx hb dX5_bound_78 rfl (lv_at hl 1 rfl) ?_
                    refine sp_vv0 (n := 0) SF hK hA (c_X5_notes l g a v (t, z) hX B hJ (by omega)) gX5_bound_X5_notes rfl rfl rfl (by decide +kernel) rfl ⟨Nat.le_of_ble_eq_true rfl, Nat.le_of_ble_eq_true rfl⟩ 5 0 rfl rfl hP hD hS hl.1 rfl (Nat.le_of_ble_eq_true rfl) dX5_bound_79 (fun y1 H locs hy1 hP hD hS => ?_)
                    have hP : va_P g.1 vwCl (mdW g a (v.1, v.2.1, y1.1, y1.2, v.2.2.2.2.1, v.2.2.2.2.2.1, v.2.2.2.2.2.2.1, v.2.2.2.2.2.2.2.1, v.2.2.2.2.2.2.2.2.1, v.2.2.2.2.2.2.2.2.2.1, v.2.2.2.2.2.2.2.2.2.2)) H := hP
                    have hD : va_D A (mdW g a (v.1, v.2.1, y1.1, y1.2, v.2.2.2.2.1, v.2.2.2.2.2.1, v.2.2.2.2.2.2.1, v.2.2.2.2.2.2.2.1, v.2.2.2.2.2.2.2.2.1, v.2.2.2.2.2.2.2.2.2.1, v.2.2.2.2.2.2.2.2.2.2)) := hD
                    refine lv_aload_n hx hb dX5_bound_82 rfl (lv_at hl 1 rfl) ?_
                    refine va_get (D := g.1) (ci := 5) (v := .ref a.2.1) (C := RX5) (T := TX5) (N := 11) hx hb hts inX5 hown hK.1 hP 0 rfl rfl 0 (by decide) (hts _ (List.mem_of_getElem? (i := 2) rfl)) (fun _ h9 => h9) rfl dX5_bound_83 ?_
                    refine lv_iconst (v := nI 2) hx hb dX5_bound_86 (by decide) ?_
                    refine lv_iload_n hx hb dX5_bound_87 rfl (lv_at hl 2 rfl) ?_
                    refine lv_iadd hx hb dX5_bound_88 ?_
                    refine sp_top (y := nI (2 + 3)) (nI_add _ _) ?_
                    refine va_iald hx hb hK.1 hP 1 0 rfl rfl (vp_in_nI (by omega) (by omega)) dX5_bound_89 ?_
                    refine sp_top (y := v.1 (2 + 3)) (congrArg v.1 (sp_c8 (k := (2 + 3)) (by omega))) ?_
                    refine sp_top (y := nI (sp_bget t 3)) (sp_Rm_bg hM (k := 3) (by omega)) ?_
                    refine lv_istore (lv' := [(4, .int (nI (sp_bget t 3))), (3, .int (nI 1)), (0, .ref a.1), (1, .int (nI 3)), (2, .int (nI n))]) hx hb dX5_bound_90 hl (by decide) rfl (fun ls hl => ?_)
                    refine lv_aload_n hx hb dX5_bound_92 rfl (lv_at hl 2 rfl) ?_
                    refine va_get (D := g.1) (ci := 5) (v := .ref a.2.1) (C := RX5) (T := TX5) (N := 11) hx hb hts inX5 hown hK.1 hP 0 rfl rfl 0 (by decide) (hts _ (List.mem_of_getElem? (i := 2) rfl)) (fun _ h9 => h9) rfl dX5_bound_93 ?_
                    refine lv_iconst (v := nI 2) hx hb dX5_bound_96 (by decide) ?_
                    refine lv_iload_n hx hb dX5_bound_97 rfl (lv_at hl 3 rfl) ?_
                    refine lv_iadd hx hb dX5_bound_98 ?_
                    refine sp_top (y := nI (2 + 3)) (nI_add _ _) ?_
                    refine lv_iload_n hx hb dX5_bound_99 rfl (lv_at hl 4 rfl) ?_
                    refine va_iast hx hb hK.1 hP hD hS 1 0 rfl rfl (vp_in_nI (by omega) (by omega)) dX5_bound_100 (fun H locs hP hD hS => ?_)
                    rw [sp_c8 (k := (2 + 3)) (by omega)] at hP hD
                    have hP : va_P g.1 vwCl (mdW g a ((upd v.1 (2 + 3) (nI n)), v.2.1, y1.1, y1.2, v.2.2.2.2.1, v.2.2.2.2.2.1, v.2.2.2.2.2.2.1, v.2.2.2.2.2.2.2.1, v.2.2.2.2.2.2.2.2.1, v.2.2.2.2.2.2.2.2.2.1, v.2.2.2.2.2.2.2.2.2.2)) H := hP
                    have hD : va_D A (mdW g a ((upd v.1 (2 + 3) (nI n)), v.2.1, y1.1, y1.2, v.2.2.2.2.1, v.2.2.2.2.2.1, v.2.2.2.2.2.2.1, v.2.2.2.2.2.2.2.1, v.2.2.2.2.2.2.2.2.1, v.2.2.2.2.2.2.2.2.2.1, v.2.2.2.2.2.2.2.2.2.2)) := hD
                    refine lv_iload hx hb dX5_bound_101 (lv_at hl 0 rfl) ?_
                    exact hend _ _ _ _ _ ((upd v.1 (2 + 3) (nI n)), v.2.1, y1.1, y1.2, v.2.2.2.2.1, v.2.2.2.2.2.1, v.2.2.2.2.2.2.1, v.2.2.2.2.2.2.2.1, v.2.2.2.2.2.2.2.2.1, v.2.2.2.2.2.2.2.2.2.1, v.2.2.2.2.2.2.2.2.2.2) dX5_bound_103 (sp_an (o_bound_y (x := (t, z)) (k := 3) hk hbt (by omega) (fun q => by omega)) (sp_M_set hy1 (sp_Rm_b hM (k := 3) (by omega) n))) hP hD hS
                  · have c12 := (sp_z_eq (by omega)).mp c12
                    exact absurd c12 (by omega)
                · have c11 := (sp_z_eq (by omega)).mp c11
                  exact absurd c11 (by omega)
        · have c16 := (nI_eq (by omega) (by omega)).mp c16
          exact absurd c16 (by omega)
      · have c1 := (sp_z_eq (by omega)).mp c1
        exact absurd c1 (by omega)
  · have hbk := sp_bok_o (v := v0) hsw
    refine lv_iload_n hx hb dX5_bound_0 rfl (lv_at hl 1 rfl) ?_
    refine lv_if_ne (tgt := 14) hx hb dX5_bound_1 (by decide) (fun c1 => ?_) (fun c1 => ?_)
    · refine lv_iload_n hx hb dX5_bound_14 rfl (lv_at hl 1 rfl) ?_
      refine lv_iconst (v := nI 1) hx hb dX5_bound_15 (by decide) ?_
      refine lv_icmp_ne (tgt := 30) hx hb dX5_bound_16 (by decide) (fun c16 => ?_) (fun c16 => ?_)
      · refine lv_iload_n hx hb dX5_bound_30 rfl (lv_at hl 1 rfl) ?_
        refine lv_iconst (v := nI 2) hx hb dX5_bound_31 (by decide) ?_
        refine lv_icmp_eq (tgt := 40) hx hb dX5_bound_32 (by decide) (fun c32 => ?_) (fun c32 => ?_)
        · exact absurd c32 (sp_out_ne hsw (k := 2) (by omega) (by omega))
        · refine lv_iload_n hx hb dX5_bound_35 rfl (lv_at hl 1 rfl) ?_
          refine lv_iconst (v := nI 3) hx hb dX5_bound_36 (by decide) ?_
          refine lv_icmp_ne (tgt := 53) hx hb dX5_bound_37 (by decide) (fun c37 => ?_) (fun c37 => ?_)
          · refine lv_iconst (v := nI 0) hx hb dX5_bound_53 (by decide) ?_
            refine lv_istore_n (lv' := [(3, .int (nI 0)), (0, .ref a.1), (1, .int w0), (2, .int v0)]) hx hb dX5_bound_54 rfl hl (by decide) rfl (fun ls hl => ?_)
            refine lv_iload_n hx hb dX5_bound_55 rfl (lv_at hl 0 rfl) ?_
            refine lv_if_ne (tgt := 62) hx hb dX5_bound_56 (by decide) (fun c13 => ?_) (fun c13 => ?_)
            · have c13 := mt (sp_z_eq (by omega)).mpr c13
              exact absurd c13 (by omega)
            · have c13 := (sp_z_eq (by omega)).mp c13
              refine lv_ldc (v := (-1000000002)) hx hb hown (hts _ (List.mem_of_getElem? (i := 1) rfl)) dX5_bound_59 ?_
              exact hend _ _ _ _ _ v dX5_bound_61 (sp_an (o_bound_o (x := (t, z)) hbk) hX) hP hD hS
          · exact absurd c37 (sp_out_ne hsw (k := 3) (by omega) (by omega))
      · exact absurd c16 (sp_out_ne hsw (k := 1) (by omega) (by omega))
    · exact absurd c1 (sp_out_ne hsw (k := 0) (by omega) (by omega))

set_option maxHeartbeats 4000000 in
set_option maxRecDepth 100000 in
theorem c_X5_drawOf (l : Launch) (g : sp_G) (a : sp_A9) (v : sp_V) (s0 s1 : Nat) (hs1 : s0 < 2 ^ 31) (hn1x : sp_nx s0 = s1) (hs1b : s1 < 2 ^ 31) (hs0 : v.2.2.2.2.2.2.2.1 = lN s0) (n : Nat) (hn0 : 0 < n) (hn1 : n < 100) : sp_CI l g yX5_drawOf wsX5_drawOf ({ frames := 0, cells := 0, slots := 0, locals := 0 }) [.ref a.1, .int (nI n)] (mdW g a v) (fun r (_ : Unit) => r = nI (s1 / 65536 % n)) (fun _ => mdW g a (v.1, v.2.1, v.2.2.1, v.2.2.2.1, v.2.2.2.2.1, v.2.2.2.2.2.1, v.2.2.2.2.2.2.1, lN s1, v.2.2.2.2.2.2.2.2)) := by
  refine sp_CI.of (cc := cX5_drawOf) (maxL := 2) (by decide) rfl (Nat.le_of_ble_eq_true rfl) ?_
  intro p e s m below meth c Q A ls SF hK hP hD hA hl hend
  have hx := SF.1
  have hb := SF.2.1
  have hown : s.vm.findClass RX5 = some m.cls := SF.2.2.2.1
  have hts := SF.2.2.2.2
  have hS : va_S A s.heap s.heap [] := va_S.rf
  have inX5 : ∀ w ∈ wsX50, w ∈ wsX5_drawOf := fun w h => List.mem_cons_of_mem _ (List.mem_append_right _ h)
  have hl : lv_has ls 2 [(0, .ref a.1), (1, .int (nI n))] := hl
  refine lv_aload_n hx hb dX5_drawOf_0 rfl (lv_at hl 0 rfl) ?_
  refine lv_aload_n hx hb dX5_drawOf_1 rfl (lv_at hl 0 rfl) ?_
  refine va_get (D := g.1) (ci := 5) (v := .long v.2.2.2.2.2.2.2.1) (C := RX5) (T := TX5) (N := 11) hx hb hts inX5 hown hK.1 hP 0 rfl rfl 7 (by decide) (hts _ (List.mem_of_getElem? (i := 1) rfl)) (fun _ h9 => h9) rfl dX5_drawOf_2 ?_
  refine sp_top_l (y := lN s0) (hs0) ?_
  refine lv_ldc2 (v := lN 1103515245) hx hb hown (hts _ (List.mem_of_getElem? (i := 2) rfl)) dX5_drawOf_5 ?_
  refine lv_lmul hx hb dX5_drawOf_8 ?_
  refine sp_top_l (y := lN (s0 * 1103515245)) (lN_mul _ _) ?_
  refine lv_ldc2 (v := lN 12345) hx hb hown (hts _ (List.mem_of_getElem? (i := 3) rfl)) dX5_drawOf_9 ?_
  refine lv_ladd hx hb dX5_drawOf_12 ?_
  refine sp_top_l (y := lN (s0 * 1103515245 + 12345)) (lN_add _ _) ?_
  refine lv_ldc2 (v := lN 2147483648) hx hb hown (hts _ (List.mem_of_getElem? (i := 4) rfl)) dX5_drawOf_13 ?_
  refine lv_lrem hx hb dX5_drawOf_16 (sp_lne63 (by omega) (by omega)) ?_
  refine sp_top_l (y := lN s1) ((sp_lrem (by omega) (by omega) (by omega)).trans (congrArg lN hn1x)) ?_
  refine va_put (D := g.1) (ci := 5) (v := .long (lN s1)) (ty := .long) (C := RX5) (T := TX5) (N := 11) hx hb hts inX5 tyX5 tyX5_ok nmX5 hown hK.1 hP hD hS 0 rfl rfl 7 (by decide) (hts _ (List.mem_of_getElem? (i := 1) rfl)) (fun _ h9 => h9) rfl (by decide +kernel) rfl rfl (Nat.le_of_ble_eq_true rfl) dX5_drawOf_17 (fun H locs hP hD hS => ?_)
  have hP : va_P g.1 vwCl (mdW g a (v.1, v.2.1, v.2.2.1, v.2.2.2.1, v.2.2.2.2.1, v.2.2.2.2.2.1, v.2.2.2.2.2.2.1, (lN s1), v.2.2.2.2.2.2.2.2.1, v.2.2.2.2.2.2.2.2.2.1, v.2.2.2.2.2.2.2.2.2.2)) H := hP
  have hD : va_D A (mdW g a (v.1, v.2.1, v.2.2.1, v.2.2.2.1, v.2.2.2.2.1, v.2.2.2.2.2.1, v.2.2.2.2.2.2.1, (lN s1), v.2.2.2.2.2.2.2.2.1, v.2.2.2.2.2.2.2.2.2.1, v.2.2.2.2.2.2.2.2.2.2)) := hD
  refine lv_aload_n hx hb dX5_drawOf_20 rfl (lv_at hl 0 rfl) ?_
  refine va_get (D := g.1) (ci := 5) (v := .long (lN s1)) (C := RX5) (T := TX5) (N := 11) hx hb hts inX5 hown hK.1 hP 0 rfl rfl 7 (by decide) (hts _ (List.mem_of_getElem? (i := 1) rfl)) (fun _ h9 => h9) rfl dX5_drawOf_21 ?_
  refine lv_ldc2 (v := lN 65536) hx hb hown (hts _ (List.mem_of_getElem? (i := 5) rfl)) dX5_drawOf_24 ?_
  refine lv_ldiv hx hb dX5_drawOf_27 (sp_lne63 (by omega) (by omega)) ?_
  refine sp_top_l (y := lN (s1 / 65536)) (sp_ldiv (by omega) (by omega) (by omega)) ?_
  refine lv_iload_n hx hb dX5_drawOf_28 rfl (lv_at hl 1 rfl) ?_
  refine lv_i2l (v := lN n) hx hb dX5_drawOf_29 (nI_l (by omega)) ?_
  refine lv_lrem hx hb dX5_drawOf_30 (sp_lne63 (by omega) (by omega)) ?_
  refine sp_top_l (y := lN (s1 / 65536 % n)) (sp_lrem (by omega) (by omega) (by omega)) ?_
  refine lv_l2i (v := nI (s1 / 65536 % n)) hx hb dX5_drawOf_31 (lN_i _) ?_
  exact hend _ _ _ _ _ () dX5_drawOf_32 (rfl) hP hD hS

set_option maxHeartbeats 4000000 in
set_option maxRecDepth 100000 in
theorem c_X5_undo (l : Launch) (g : sp_G) (a : sp_A9) (v : sp_V) (x : sp_S) (hX : sp_M v x) (B : Nat) (hJ : sp_J x B) (hB : B ≤ 150000) (n0 : Int32) : sp_CI l g yX5_undo wsX5_undo ({ frames := 1, cells := 0, slots := 0, locals := 22 }) [.ref a.1, .int n0] (mdW g a v) (fun r (w : sp_V) => r = (o_undo x n0).1 ∧ sp_M w (o_undo x n0).2) (fun w => mdW g a w) := by
  obtain ⟨t, z⟩ := x
  refine sp_CI.of (cc := cX5_undo) (maxL := 3) (by decide) rfl (Nat.le_of_ble_eq_true rfl) ?_
  intro p e s m below meth c Q A ls SF hK hP hD hA hl hend
  have hx := SF.1
  have hb := SF.2.1
  have hown : s.vm.findClass RX5 = some m.cls := SF.2.2.2.1
  have hts := SF.2.2.2.2
  have hS : va_S A s.heap s.heap [] := va_S.rf
  have inX5 : ∀ w ∈ wsX50, w ∈ wsX5_undo := fun w h => List.mem_cons_of_mem _ (List.mem_append_right _ h)
  have hl : lv_has ls 3 [(0, .ref a.1), (1, .int n0)] := hl
  have hM : sp_Rm v.1 t := hX.now
  have hI : sp_I t := hJ.now
  have hn8 := hI.n
  have hdB : td t ≤ B := hJ.d
  have hzz := hJ.pz
  refine lv_iload_n hx hb dX5_undo_0 rfl (lv_at hl 1 rfl) ?_
  refine lv_iconst (v := nI 1) hx hb dX5_undo_1 (by decide) ?_
  refine lv_bipush (v := nI 20) hx hb dX5_undo_2 (by decide) ?_
  refine sp_si (n := 3) (wc := []) (wr := (mdW g a v)) SF hK hA (c_X5_in l g n0 (nI 1) (nI 20)) gX5_undo_X5_in rfl rfl rfl (by decide +kernel) rfl ⟨Nat.le_of_ble_eq_true rfl, Nat.le_of_ble_eq_true rfl⟩ hP hD hS hl.1 rfl (Nat.le_of_ble_eq_true rfl) dX5_undo_4 (fun r9 u9 H locs hbb hP hD hS => ?_)
  obtain ⟨bb, rfl, hbb⟩ := hbb
  have hP : va_P g.1 vwCl (mdW g a v) H := hP
  have hD : va_D A (mdW g a v) := hD
  refine lv_if_ne (tgt := 13) hx hb dX5_undo_7 (by decide) (fun c1 => ?_) (fun c1 => ?_)
  · have c1 := sp_b0n.mp c1
    obtain ⟨n, h1, h2, rfl⟩ := sp_inI_t (by omega) (by omega) (hbb.symm.trans c1)
    refine lv_iload_n hx hb dX5_undo_13 rfl (lv_at hl 1 rfl) ?_
    refine lv_aload_n hx hb dX5_undo_14 rfl (lv_at hl 0 rfl) ?_
    refine va_get (D := g.1) (ci := 5) (v := .int v.2.2.2.1) (C := RX5) (T := TX5) (N := 11) hx hb hts inX5 hown hK.1 hP 0 rfl rfl 3 (by decide) (hts _ (List.mem_of_getElem? (i := 2) rfl)) (fun _ h9 => h9) rfl dX5_undo_15 ?_
    refine sp_top (y := nI (s_pz (t, z))) (hX.dee) ?_
    refine lv_icmp_le (tgt := 24) hx hb dX5_undo_18 (by decide) (fun c2 => ?_) (fun c2 => ?_)
    · have c2 := (nI_leI (by omega) (by omega)).mp c2
      refine lv_aload_n hx hb dX5_undo_24 rfl (lv_at hl 0 rfl) ?_
      refine lv_dup hx hb dX5_undo_25 rfl ?_
      refine va_get (D := g.1) (ci := 5) (v := .int v.2.2.2.1) (C := RX5) (T := TX5) (N := 11) hx hb hts inX5 hown hK.1 hP 0 rfl rfl 3 (by decide) (hts _ (List.mem_of_getElem? (i := 2) rfl)) (fun _ h9 => h9) rfl dX5_undo_26 ?_
      refine sp_top (y := nI (s_pz (t, z))) (hX.dee) ?_
      refine lv_iload_n hx hb dX5_undo_29 rfl (lv_at hl 1 rfl) ?_
      refine lv_isub hx hb dX5_undo_30 ?_
      refine sp_top (y := nI (s_pz (t, z) - n)) (sp_sub (by omega)) ?_
      refine va_put (D := g.1) (ci := 5) (v := .int (nI (s_pz (t, z) - n))) (ty := .int) (C := RX5) (T := TX5) (N := 11) hx hb hts inX5 tyX5 tyX5_ok nmX5 hown hK.1 hP hD hS 0 rfl rfl 3 (by decide) (hts _ (List.mem_of_getElem? (i := 2) rfl)) (fun _ h9 => h9) rfl (by decide +kernel) rfl rfl (Nat.le_of_ble_eq_true rfl) dX5_undo_31 (fun H locs hP hD hS => ?_)
      have hP : va_P g.1 vwCl (mdW g a (v.1, v.2.1, v.2.2.1, (nI (s_pz (t, z) - n)), v.2.2.2.2.1, v.2.2.2.2.2.1, v.2.2.2.2.2.2.1, v.2.2.2.2.2.2.2.1, v.2.2.2.2.2.2.2.2.1, v.2.2.2.2.2.2.2.2.2.1, v.2.2.2.2.2.2.2.2.2.2)) H := hP
      have hD : va_D A (mdW g a (v.1, v.2.1, v.2.2.1, (nI (s_pz (t, z) - n)), v.2.2.2.2.1, v.2.2.2.2.2.1, v.2.2.2.2.2.2.1, v.2.2.2.2.2.2.2.1, v.2.2.2.2.2.2.2.2.1, v.2.2.2.2.2.2.2.2.2.1, v.2.2.2.2.2.2.2.2.2.2)) := hD
      refine lv_iconst (v := nI 0) hx hb dX5_undo_34 (by decide) ?_
      refine lv_istore_n (lv' := [(2, .int (nI 0)), (0, .ref a.1), (1, .int (nI n))]) hx hb dX5_undo_35 rfl hl (by decide) rfl (fun ls hl => ?_)
      have hloop36 : ∀ (n36 : Nat) (k : Nat) (h : Nat → Int32) (H : Heap) (locs : List Loc) (ls : Array Slot), (k ≤ 38) → (∀ j, j < k → h j = v.2.2.1 (38 * (s_pz (t, z) - n) + j)) → 38 - k < n36 → va_P g.1 vwCl (mdW g a (h, v.2.1, v.2.2.1, nI (s_pz (t, z) - n), v.2.2.2.2.1, v.2.2.2.2.2.1, v.2.2.2.2.2.2.1, v.2.2.2.2.2.2.2.1, v.2.2.2.2.2.2.2.2.1, v.2.2.2.2.2.2.2.2.2.1, v.2.2.2.2.2.2.2.2.2.2)) H → va_D A (mdW g a (h, v.2.1, v.2.2.1, nI (s_pz (t, z) - n), v.2.2.2.2.1, v.2.2.2.2.2.1, v.2.2.2.2.2.2.1, v.2.2.2.2.2.2.2.1, v.2.2.2.2.2.2.2.2.1, v.2.2.2.2.2.2.2.2.2.1, v.2.2.2.2.2.2.2.2.2.2)) → va_S A s.heap H locs → lv_has ls 3 [(0, .ref a.1), (1, .int (nI n)), (2, .int (nI k))] → W p l e ({ frames := 1, cells := 0, slots := 0, locals := 22 }) s m ([.ref a.1, .int (nI n)] : List Value).toArray below meth c H locs 0 0 Q (F0 m 36 ls []) := by
        intro n36
        induction n36 with
        | zero =>
          intro k h H locs ls hk hh h9
          exact absurd h9 (Nat.not_lt_zero _)
        | succ n36 ih36 =>
          intro k h H locs ls hk hh hm36 hP hD hS hl
          refine lv_iload_n hx hb dX5_undo_36 rfl (lv_at hl 2 rfl) ?_
          refine lv_bipush (v := nI 38) hx hb dX5_undo_37 (by decide) ?_
          refine lv_icmp_ge (tgt := 68) hx hb dX5_undo_39 (by decide) (fun c3 => ?_) (fun c3 => ?_)
          · have c3 := (nI_leI (by omega) (by omega)).mp c3
            refine lv_aload_n hx hb dX5_undo_68 rfl (lv_at hl 0 rfl) ?_
            refine va_get (D := g.1) (ci := 5) (v := .ref a.2.1) (C := RX5) (T := TX5) (N := 11) hx hb hts inX5 hown hK.1 hP 0 rfl rfl 0 (by decide) (hts _ (List.mem_of_getElem? (i := 4) rfl)) (fun _ h9 => h9) rfl dX5_undo_69 ?_
            refine lv_iconst (v := nI 0) hx hb dX5_undo_72 (by decide) ?_
            have h8 := (hJ.ph (j := n - 1) (by omega)).1.n
            have hMu := sp_M_undo hX h1 (by omega) h8 (fun j hj => hh j (by omega))
            refine va_iald hx hb hK.1 hP 1 0 rfl rfl (vp_in_nI (by omega) (by omega)) dX5_undo_73 ?_
            refine sp_top (y := h 0) (congrArg h (sp_c8 (k := 0) (by omega))) ?_
            refine sp_top (y := nI (td (s_ph (t, z) (n - 1)))) (hMu.now.d) ?_
            exact hend _ _ _ _ _ (h, v.2.1, v.2.2.1, nI (s_pz (t, z) - n), v.2.2.2.2.1, v.2.2.2.2.2.1, v.2.2.2.2.2.2.1, v.2.2.2.2.2.2.2.1, v.2.2.2.2.2.2.2.2.1, v.2.2.2.2.2.2.2.2.2.1, v.2.2.2.2.2.2.2.2.2.2) dX5_undo_74 (sp_an (o_undo_y h1 h2 (by omega)) hMu) hP hD hS
          · have c3 := mt (nI_leI (by omega) (by omega)).mpr c3
            refine lv_aload_n hx hb dX5_undo_42 rfl (lv_at hl 0 rfl) ?_
            refine va_get (D := g.1) (ci := 5) (v := .ref a.2.1) (C := RX5) (T := TX5) (N := 11) hx hb hts inX5 hown hK.1 hP 0 rfl rfl 0 (by decide) (hts _ (List.mem_of_getElem? (i := 4) rfl)) (fun _ h9 => h9) rfl dX5_undo_43 ?_
            refine lv_iload_n hx hb dX5_undo_46 rfl (lv_at hl 2 rfl) ?_
            refine lv_aload_n hx hb dX5_undo_47 rfl (lv_at hl 0 rfl) ?_
            refine va_get (D := g.1) (ci := 5) (v := .ref a.2.2.2.1) (C := RX5) (T := TX5) (N := 11) hx hb hts inX5 hown hK.1 hP 0 rfl rfl 2 (by decide) (hts _ (List.mem_of_getElem? (i := 5) rfl)) (fun _ h9 => h9) rfl dX5_undo_48 ?_
            refine lv_bipush (v := nI 38) hx hb dX5_undo_51 (by decide) ?_
            refine lv_aload_n hx hb dX5_undo_53 rfl (lv_at hl 0 rfl) ?_
            refine va_get (D := g.1) (ci := 5) (v := .int (nI (s_pz (t, z) - n))) (C := RX5) (T := TX5) (N := 11) hx hb hts inX5 hown hK.1 hP 0 rfl rfl 3 (by decide) (hts _ (List.mem_of_getElem? (i := 2) rfl)) (fun _ h9 => h9) rfl dX5_undo_54 ?_
            refine lv_imul hx hb dX5_undo_57 ?_
            refine sp_top (y := nI (38 * (s_pz (t, z) - n))) (sp_mul _ _) ?_
            refine lv_iload_n hx hb dX5_undo_58 rfl (lv_at hl 2 rfl) ?_
            refine lv_iadd hx hb dX5_undo_59 ?_
            refine sp_top (y := nI ((38 * (s_pz (t, z) - n)) + k)) (nI_add _ _) ?_
            refine va_iald hx hb hK.1 hP 3 0 rfl rfl (vp_in_nI (by omega) (by omega)) dX5_undo_60 ?_
            refine sp_top (y := v.2.2.1 ((38 * (s_pz (t, z) - n)) + k)) (congrArg v.2.2.1 (sp_c8 (k := ((38 * (s_pz (t, z) - n)) + k)) (by omega))) ?_
            refine va_iast hx hb hK.1 hP hD hS 1 0 rfl rfl (vp_in_nI (by omega) (by omega)) dX5_undo_61 (fun H locs hP hD hS => ?_)
            rw [sp_c8 (k := k) (by omega)] at hP hD
            have hP : va_P g.1 vwCl (mdW g a ((upd h k (v.2.2.1 ((38 * (s_pz (t, z) - n)) + k))), v.2.1, v.2.2.1, nI (s_pz (t, z) - n), v.2.2.2.2.1, v.2.2.2.2.2.1, v.2.2.2.2.2.2.1, v.2.2.2.2.2.2.2.1, v.2.2.2.2.2.2.2.2.1, v.2.2.2.2.2.2.2.2.2.1, v.2.2.2.2.2.2.2.2.2.2)) H := hP
            have hD : va_D A (mdW g a ((upd h k (v.2.2.1 ((38 * (s_pz (t, z) - n)) + k))), v.2.1, v.2.2.1, nI (s_pz (t, z) - n), v.2.2.2.2.1, v.2.2.2.2.2.1, v.2.2.2.2.2.2.1, v.2.2.2.2.2.2.2.1, v.2.2.2.2.2.2.2.2.1, v.2.2.2.2.2.2.2.2.2.1, v.2.2.2.2.2.2.2.2.2.2)) := hD
            refine lv_iinc (v := nI (k + 1)) (lv' := [(2, .int (nI (k + 1))), (0, .ref a.1), (1, .int (nI n))]) hx hb dX5_undo_62 hl (k := 2) rfl (nI_1 k) (by decide) rfl (fun ls hl => ?_)
            refine lv_goto (tgt := 36) hx hb dX5_undo_65 (by decide) ?_
            exact ih36 (k + 1) (upd h k (v.2.2.1 (38 * (s_pz (t, z) - n) + k))) _ _ _ (by omega) (sp_upd_ext0 (F := fun j => v.2.2.1 (38 * (s_pz (t, z) - n) + j)) hh rfl) (by omega) hP hD hS (lv_sub hl [1, 2, 0] rfl)
      exact hloop36 (_ + 1) 0 v.1 _ _ _ (by omega) (fun j hj => absurd hj (Nat.not_lt_zero j)) (Nat.lt_succ_self _) hP hD hS (lv_sub hl [1, 2, 0] rfl)
    · have c2 := mt (nI_leI (by omega) (by omega)).mpr c2
      refine lv_ldc (v := (-1000000003)) hx hb hown (hts _ (List.mem_of_getElem? (i := 3) rfl)) dX5_undo_21 ?_
      exact hend _ _ _ _ _ v dX5_undo_23 (sp_an (o_undo_n h1 h2 (by omega)) hX) hP hD hS
  · have c1 := sp_b0.mp c1
    refine lv_ldc (v := (-1000000002)) hx hb hown (hts _ (List.mem_of_getElem? (i := 1) rfl)) dX5_undo_10 ?_
    exact hend _ _ _ _ _ v dX5_undo_12 (sp_an (o_undo_o (hbb.symm.trans c1)) hX) hP hD hS

set_option maxHeartbeats 4000000 in
set_option maxRecDepth 100000 in
theorem c_X5_write (l : Launch) (g : sp_G) (a : sp_A9) (v : sp_V) (x : sp_S) (hX : sp_M v x) (B : Nat) (hJ : sp_J x B) (hB : B ≤ 150000) (i0 v0 : Int32) : sp_CI l g yX5_write wsX5_write ({ frames := 2, cells := 0, slots := 0, locals := 43 }) [.ref a.1, .int i0, .int v0] (mdW g a v) (fun r (w : sp_V) => r = (o_write x i0 v0).1 ∧ sp_M w (o_write x i0 v0).2) (fun w => mdW g a w) := by
  obtain ⟨t, z⟩ := x
  refine sp_CI.of (cc := cX5_write) (maxL := 3) (by decide) rfl (Nat.le_of_ble_eq_true rfl) ?_
  intro p e s m below meth c Q A ls SF hK hP hD hA hl hend
  have hx := SF.1
  have hb := SF.2.1
  have hown : s.vm.findClass RX5 = some m.cls := SF.2.2.2.1
  have hts := SF.2.2.2.2
  have hS : va_S A s.heap s.heap [] := va_S.rf
  have inX5 : ∀ w ∈ wsX50, w ∈ wsX5_write := fun w h => List.mem_cons_of_mem _ (List.mem_append_right _ h)
  have hl : lv_has ls 3 [(0, .ref a.1), (1, .int i0), (2, .int v0)] := hl
  have hM : sp_Rm v.1 t := hX.now
  have hI : sp_I t := hJ.now
  have hn8 := hI.n
  have hdB : td t ≤ B := hJ.d
  have hb20 := hJ.bn
  refine lv_aload_n hx hb dX5_write_0 rfl (lv_at hl 0 rfl) ?_
  refine lv_iload_n hx hb dX5_write_1 rfl (lv_at hl 1 rfl) ?_
  refine sp_vi0 (n := 1) SF hK hA (c_X5_isFloor l g a v t hM hI i0) gX5_write_X5_isFloor rfl rfl rfl (by decide +kernel) rfl ⟨Nat.le_of_ble_eq_true rfl, Nat.le_of_ble_eq_true rfl⟩ 5 0 rfl rfl hP hD hS hl.1 rfl (Nat.le_of_ble_eq_true rfl) dX5_write_2 (fun r9 u9 H locs hbb hP hD hS => ?_)
  obtain ⟨bb, rfl, hbb⟩ := hbb
  have hP : va_P g.1 vwCl (mdW g a v) H := hP
  have hD : va_D A (mdW g a v) := hD
  refine lv_if_ne (tgt := 11) hx hb dX5_write_5 (by decide) (fun c1 => ?_) (fun c1 => ?_)
  · have c1 := sp_b0n.mp c1
    obtain ⟨j, hj, rfl⟩ := sp_has_t (hbb.symm.trans c1) hn8
    refine lv_aload_n hx hb dX5_write_11 rfl (lv_at hl 0 rfl) ?_
    refine va_get (D := g.1) (ci := 5) (v := .int v.2.2.2.2.2.2.2.2.2.1) (C := RX5) (T := TX5) (N := 11) hx hb hts inX5 hown hK.1 hP 0 rfl rfl 9 (by decide) (hts _ (List.mem_of_getElem? (i := 2) rfl)) (fun _ h9 => h9) rfl dX5_write_12 ?_
    refine sp_top (y := nI (s_bn (t, z))) (hX.ent) ?_
    refine lv_bipush (v := nI 20) hx hb dX5_write_15 (by decide) ?_
    refine lv_icmp_ne (tgt := 23) hx hb dX5_write_17 (by decide) (fun c2 => ?_) (fun c2 => ?_)
    · have c2 := mt (nI_eq (by omega) (by omega)).mpr c2
      refine lv_aload_n hx hb dX5_write_23 rfl (lv_at hl 0 rfl) ?_
      refine va_get (D := g.1) (ci := 5) (v := .ref a.2.2.2.2.2.2.2.1) (C := RX5) (T := TX5) (N := 11) hx hb hts inX5 hown hK.1 hP 0 rfl rfl 8 (by decide) (hts _ (List.mem_of_getElem? (i := 4) rfl)) (fun _ h9 => h9) rfl dX5_write_24 ?_
      refine lv_iconst (v := nI 2) hx hb dX5_write_27 (by decide) ?_
      refine lv_aload_n hx hb dX5_write_28 rfl (lv_at hl 0 rfl) ?_
      refine va_get (D := g.1) (ci := 5) (v := .int v.2.2.2.2.2.2.2.2.2.1) (C := RX5) (T := TX5) (N := 11) hx hb hts inX5 hown hK.1 hP 0 rfl rfl 9 (by decide) (hts _ (List.mem_of_getElem? (i := 2) rfl)) (fun _ h9 => h9) rfl dX5_write_29 ?_
      refine sp_top (y := nI (s_bn (t, z))) (hX.ent) ?_
      refine lv_imul hx hb dX5_write_32 ?_
      refine sp_top (y := nI (2 * (s_bn (t, z)))) (sp_mul _ _) ?_
      refine lv_iload_n hx hb dX5_write_33 rfl (lv_at hl 1 rfl) ?_
      refine va_iast hx hb hK.1 hP hD hS 7 0 rfl rfl (vp_in_nI (by omega) (by omega)) dX5_write_34 (fun H locs hP hD hS => ?_)
      rw [sp_c8 (k := (2 * (s_bn (t, z)))) (by omega)] at hP hD
      have hP : va_P g.1 vwCl (mdW g a (v.1, v.2.1, v.2.2.1, v.2.2.2.1, v.2.2.2.2.1, v.2.2.2.2.2.1, v.2.2.2.2.2.2.1, v.2.2.2.2.2.2.2.1, (upd v.2.2.2.2.2.2.2.2.1 (2 * (s_bn (t, z))) (nI j)), v.2.2.2.2.2.2.2.2.2.1, v.2.2.2.2.2.2.2.2.2.2)) H := hP
      have hD : va_D A (mdW g a (v.1, v.2.1, v.2.2.1, v.2.2.2.1, v.2.2.2.2.1, v.2.2.2.2.2.1, v.2.2.2.2.2.2.1, v.2.2.2.2.2.2.2.1, (upd v.2.2.2.2.2.2.2.2.1 (2 * (s_bn (t, z))) (nI j)), v.2.2.2.2.2.2.2.2.2.1, v.2.2.2.2.2.2.2.2.2.2)) := hD
      refine lv_aload_n hx hb dX5_write_35 rfl (lv_at hl 0 rfl) ?_
      refine va_get (D := g.1) (ci := 5) (v := .ref a.2.2.2.2.2.2.2.1) (C := RX5) (T := TX5) (N := 11) hx hb hts inX5 hown hK.1 hP 0 rfl rfl 8 (by decide) (hts _ (List.mem_of_getElem? (i := 4) rfl)) (fun _ h9 => h9) rfl dX5_write_36 ?_
      refine lv_iconst (v := nI 2) hx hb dX5_write_39 (by decide) ?_
      refine lv_aload_n hx hb dX5_write_40 rfl (lv_at hl 0 rfl) ?_
      refine va_get (D := g.1) (ci := 5) (v := .int v.2.2.2.2.2.2.2.2.2.1) (C := RX5) (T := TX5) (N := 11) hx hb hts inX5 hown hK.1 hP 0 rfl rfl 9 (by decide) (hts _ (List.mem_of_getElem? (i := 2) rfl)) (fun _ h9 => h9) rfl dX5_write_41 ?_
      refine sp_top (y := nI (s_bn (t, z))) (hX.ent) ?_
      refine lv_imul hx hb dX5_write_44 ?_
      refine sp_top (y := nI (2 * (s_bn (t, z)))) (sp_mul _ _) ?_
      refine lv_iconst (v := nI 1) hx hb dX5_write_45 (by decide) ?_
      refine lv_iadd hx hb dX5_write_46 ?_
      refine sp_top (y := nI ((2 * (s_bn (t, z))) + 1)) (nI_add _ _) ?_
      refine lv_iload_n hx hb dX5_write_47 rfl (lv_at hl 2 rfl) ?_
      refine va_iast hx hb hK.1 hP hD hS 7 0 rfl rfl (vp_in_nI (by omega) (by omega)) dX5_write_48 (fun H locs hP hD hS => ?_)
      rw [sp_c8 (k := ((2 * (s_bn (t, z))) + 1)) (by omega)] at hP hD
      have hP : va_P g.1 vwCl (mdW g a (v.1, v.2.1, v.2.2.1, v.2.2.2.1, v.2.2.2.2.1, v.2.2.2.2.2.1, v.2.2.2.2.2.2.1, v.2.2.2.2.2.2.2.1, (upd (upd v.2.2.2.2.2.2.2.2.1 (2 * (s_bn (t, z))) (nI j)) ((2 * (s_bn (t, z))) + 1) v0), v.2.2.2.2.2.2.2.2.2.1, v.2.2.2.2.2.2.2.2.2.2)) H := hP
      have hD : va_D A (mdW g a (v.1, v.2.1, v.2.2.1, v.2.2.2.1, v.2.2.2.2.1, v.2.2.2.2.2.1, v.2.2.2.2.2.2.1, v.2.2.2.2.2.2.2.1, (upd (upd v.2.2.2.2.2.2.2.2.1 (2 * (s_bn (t, z))) (nI j)) ((2 * (s_bn (t, z))) + 1) v0), v.2.2.2.2.2.2.2.2.2.1, v.2.2.2.2.2.2.2.2.2.2)) := hD
      refine lv_aload_n hx hb dX5_write_49 rfl (lv_at hl 0 rfl) ?_
      refine lv_dup hx hb dX5_write_50 rfl ?_
      refine va_get (D := g.1) (ci := 5) (v := .int v.2.2.2.2.2.2.2.2.2.1) (C := RX5) (T := TX5) (N := 11) hx hb hts inX5 hown hK.1 hP 0 rfl rfl 9 (by decide) (hts _ (List.mem_of_getElem? (i := 2) rfl)) (fun _ h9 => h9) rfl dX5_write_51 ?_
      refine sp_top (y := nI (s_bn (t, z))) (hX.ent) ?_
      refine lv_iconst (v := nI 1) hx hb dX5_write_54 (by decide) ?_
      refine lv_iadd hx hb dX5_write_55 ?_
      refine sp_top (y := nI ((s_bn (t, z)) + 1)) (nI_add _ _) ?_
      refine va_put (D := g.1) (ci := 5) (v := .int (nI ((s_bn (t, z)) + 1))) (ty := .int) (C := RX5) (T := TX5) (N := 11) hx hb hts inX5 tyX5 tyX5_ok nmX5 hown hK.1 hP hD hS 0 rfl rfl 9 (by decide) (hts _ (List.mem_of_getElem? (i := 2) rfl)) (fun _ h9 => h9) rfl (by decide +kernel) rfl rfl (Nat.le_of_ble_eq_true rfl) dX5_write_56 (fun H locs hP hD hS => ?_)
      have hP : va_P g.1 vwCl (mdW g a (v.1, v.2.1, v.2.2.1, v.2.2.2.1, v.2.2.2.2.1, v.2.2.2.2.2.1, v.2.2.2.2.2.2.1, v.2.2.2.2.2.2.2.1, (upd (upd v.2.2.2.2.2.2.2.2.1 (2 * (s_bn (t, z))) (nI j)) ((2 * (s_bn (t, z))) + 1) v0), (nI ((s_bn (t, z)) + 1)), v.2.2.2.2.2.2.2.2.2.2)) H := hP
      have hD : va_D A (mdW g a (v.1, v.2.1, v.2.2.1, v.2.2.2.1, v.2.2.2.2.1, v.2.2.2.2.2.1, v.2.2.2.2.2.2.1, v.2.2.2.2.2.2.2.1, (upd (upd v.2.2.2.2.2.2.2.2.1 (2 * (s_bn (t, z))) (nI j)) ((2 * (s_bn (t, z))) + 1) v0), (nI ((s_bn (t, z)) + 1)), v.2.2.2.2.2.2.2.2.2.2)) := hD
      refine lv_aload_n hx hb dX5_write_59 rfl (lv_at hl 0 rfl) ?_
      refine va_get (D := g.1) (ci := 5) (v := .int (nI ((s_bn (t, z)) + 1))) (C := RX5) (T := TX5) (N := 11) hx hb hts inX5 hown hK.1 hP 0 rfl rfl 9 (by decide) (hts _ (List.mem_of_getElem? (i := 2) rfl)) (fun _ h9 => h9) rfl dX5_write_60 ?_
      exact hend _ _ _ _ _ (v.1, v.2.1, v.2.2.1, v.2.2.2.1, v.2.2.2.2.1, v.2.2.2.2.2.1, v.2.2.2.2.2.2.1, v.2.2.2.2.2.2.2.1, (upd (upd v.2.2.2.2.2.2.2.2.1 (2 * (s_bn (t, z))) (nI j)) ((2 * (s_bn (t, z))) + 1) v0), (nI ((s_bn (t, z)) + 1)), v.2.2.2.2.2.2.2.2.2.2) dX5_write_63 (sp_an (o_write_y (x := (t, z)) hn8 hj c2) (sp_M_write hX j v0)) hP hD hS
    · have c2 := (nI_eq (by omega) (by omega)).mp c2
      refine lv_ldc (v := (-1000000004)) hx hb hown (hts _ (List.mem_of_getElem? (i := 3) rfl)) dX5_write_20 ?_
      exact hend _ _ _ _ _ v dX5_write_22 (sp_an (o_write_f (x := (t, z)) hn8 hj c2) hX) hP hD hS
  · have c1 := sp_b0.mp c1
    refine lv_ldc (v := (-1000000001)) hx hb hown (hts _ (List.mem_of_getElem? (i := 1) rfl)) dX5_write_8 ?_
    exact hend _ _ _ _ _ v dX5_write_10 (sp_an (o_write_u (x := (t, z)) (hbb.symm.trans c1)) hX) hP hD hS

set_option maxHeartbeats 4000000 in
set_option maxRecDepth 100000 in
theorem c_X5_tear (l : Launch) (g : sp_G) (a : sp_A9) (v : sp_V) (x : sp_S) (hX : sp_M v x) (B : Nat) (hJ : sp_J x B) (hB : B ≤ 150000) : sp_CI l g yX5_tear wsX5_tear ({ frames := 0, cells := 0, slots := 0, locals := 0 }) [.ref a.1] (mdW g a v) (fun r (w : sp_V) => r = (o_tear x).1 ∧ sp_M w (o_tear x).2) (fun w => mdW g a w) := by
  obtain ⟨t, z⟩ := x
  refine sp_CI.of (cc := cX5_tear) (maxL := 2) (by decide) rfl (Nat.le_of_ble_eq_true rfl) ?_
  intro p e s m below meth c Q A ls SF hK hP hD hA hl hend
  have hx := SF.1
  have hb := SF.2.1
  have hown : s.vm.findClass RX5 = some m.cls := SF.2.2.2.1
  have hts := SF.2.2.2.2
  have hS : va_S A s.heap s.heap [] := va_S.rf
  have inX5 : ∀ w ∈ wsX50, w ∈ wsX5_tear := fun w h => List.mem_cons_of_mem _ (List.mem_append_right _ h)
  have hl : lv_has ls 2 [(0, .ref a.1)] := hl
  have hM : sp_Rm v.1 t := hX.now
  have hI : sp_I t := hJ.now
  have hn8 := hI.n
  have hdB : td t ≤ B := hJ.d
  refine lv_aload_n hx hb dX5_tear_0 rfl (lv_at hl 0 rfl) ?_
  refine va_get (D := g.1) (ci := 5) (v := .int v.2.2.2.2.2.2.2.2.2.1) (C := RX5) (T := TX5) (N := 11) hx hb hts inX5 hown hK.1 hP 0 rfl rfl 9 (by decide) (hts _ (List.mem_of_getElem? (i := 1) rfl)) (fun _ h9 => h9) rfl dX5_tear_1 ?_
  refine sp_top (y := nI (s_bn (t, z))) (hX.ent) ?_
  refine lv_istore_n (lv' := [(1, .int (nI (s_bn (t, z)))), (0, .ref a.1)]) hx hb dX5_tear_4 rfl hl (by decide) rfl (fun ls hl => ?_)
  refine lv_aload_n hx hb dX5_tear_5 rfl (lv_at hl 1 rfl) ?_
  refine lv_iconst (v := nI 0) hx hb dX5_tear_6 (by decide) ?_
  refine va_put (D := g.1) (ci := 5) (v := .int (nI 0)) (ty := .int) (C := RX5) (T := TX5) (N := 11) hx hb hts inX5 tyX5 tyX5_ok nmX5 hown hK.1 hP hD hS 0 rfl rfl 9 (by decide) (hts _ (List.mem_of_getElem? (i := 1) rfl)) (fun _ h9 => h9) rfl (by decide +kernel) rfl rfl (Nat.le_of_ble_eq_true rfl) dX5_tear_7 (fun H locs hP hD hS => ?_)
  have hP : va_P g.1 vwCl (mdW g a (v.1, v.2.1, v.2.2.1, v.2.2.2.1, v.2.2.2.2.1, v.2.2.2.2.2.1, v.2.2.2.2.2.2.1, v.2.2.2.2.2.2.2.1, v.2.2.2.2.2.2.2.2.1, (nI 0), v.2.2.2.2.2.2.2.2.2.2)) H := hP
  have hD : va_D A (mdW g a (v.1, v.2.1, v.2.2.1, v.2.2.2.1, v.2.2.2.2.1, v.2.2.2.2.2.1, v.2.2.2.2.2.2.1, v.2.2.2.2.2.2.2.1, v.2.2.2.2.2.2.2.2.1, (nI 0), v.2.2.2.2.2.2.2.2.2.2)) := hD
  refine lv_iload_n hx hb dX5_tear_10 rfl (lv_at hl 0 rfl) ?_
  exact hend _ _ _ _ _ (v.1, v.2.1, v.2.2.1, v.2.2.2.1, v.2.2.2.2.1, v.2.2.2.2.2.1, v.2.2.2.2.2.2.1, v.2.2.2.2.2.2.2.1, v.2.2.2.2.2.2.2.2.1, (nI 0), v.2.2.2.2.2.2.2.2.2.2) dX5_tear_11 (sp_an (p := o_tear (t, z)) rfl (sp_M_tear hX)) hP hD hS

set_option maxHeartbeats 4000000 in
set_option maxRecDepth 100000 in
theorem c_X5_seed (l : Launch) (g : sp_G) (a : sp_A9) (v : sp_V) (x : sp_S) (hX : sp_M v x) (B : Nat) (hJ : sp_J x B) (hB : B ≤ 150000) (v0 : Int32) : sp_CI l g yX5_seed wsX5_seed ({ frames := 0, cells := 0, slots := 0, locals := 0 }) [.ref a.1, .int v0] (mdW g a v) (fun r (w : sp_V) => r = (o_seed x v0).1 ∧ sp_M w (o_seed x v0).2) (fun w => mdW g a w) := by
  obtain ⟨t, z⟩ := x
  refine sp_CI.of (cc := cX5_seed) (maxL := 3) (by decide) rfl (Nat.le_of_ble_eq_true rfl) ?_
  intro p e s m below meth c Q A ls SF hK hP hD hA hl hend
  have hx := SF.1
  have hb := SF.2.1
  have hown : s.vm.findClass RX5 = some m.cls := SF.2.2.2.1
  have hts := SF.2.2.2.2
  have hS : va_S A s.heap s.heap [] := va_S.rf
  have inX5 : ∀ w ∈ wsX50, w ∈ wsX5_seed := fun w h => List.mem_cons_of_mem _ (List.mem_append_right _ h)
  have hl : lv_has ls 3 [(0, .ref a.1), (1, .int v0)] := hl
  have hM : sp_Rm v.1 t := hX.now
  have hI : sp_I t := hJ.now
  have hn8 := hI.n
  have hdB : td t ≤ B := hJ.d
  refine lv_iload_n hx hb dX5_seed_0 rfl (lv_at hl 1 rfl) ?_
  refine lv_if_ge (tgt := 7) hx hb dX5_seed_1 (by decide) (fun c1 => ?_) (fun c1 => ?_)
  · obtain ⟨n, hn, rfl⟩ := nI_of (Int32.not_lt.mpr c1)
    refine lv_aload_n hx hb dX5_seed_7 rfl (lv_at hl 0 rfl) ?_
    refine va_get (D := g.1) (ci := 5) (v := .long v.2.2.2.2.2.2.2.1) (C := RX5) (T := TX5) (N := 11) hx hb hts inX5 hown hK.1 hP 0 rfl rfl 7 (by decide) (hts _ (List.mem_of_getElem? (i := 2) rfl)) (fun _ h9 => h9) rfl dX5_seed_8 ?_
    refine sp_top_l (y := lN (s_sd (t, z))) (hX.see) ?_
    refine lv_l2i (v := nI (s_sd (t, z))) hx hb dX5_seed_11 (lN_i _) ?_
    refine lv_istore_n (lv' := [(2, .int (nI (s_sd (t, z)))), (0, .ref a.1), (1, .int (nI n))]) hx hb dX5_seed_12 rfl hl (by decide) rfl (fun ls hl => ?_)
    refine lv_aload_n hx hb dX5_seed_13 rfl (lv_at hl 1 rfl) ?_
    refine lv_iload_n hx hb dX5_seed_14 rfl (lv_at hl 2 rfl) ?_
    refine lv_i2l (v := lN n) hx hb dX5_seed_15 (nI_l (by omega)) ?_
    refine va_put (D := g.1) (ci := 5) (v := .long (lN n)) (ty := .long) (C := RX5) (T := TX5) (N := 11) hx hb hts inX5 tyX5 tyX5_ok nmX5 hown hK.1 hP hD hS 0 rfl rfl 7 (by decide) (hts _ (List.mem_of_getElem? (i := 2) rfl)) (fun _ h9 => h9) rfl (by decide +kernel) rfl rfl (Nat.le_of_ble_eq_true rfl) dX5_seed_16 (fun H locs hP hD hS => ?_)
    have hP : va_P g.1 vwCl (mdW g a (v.1, v.2.1, v.2.2.1, v.2.2.2.1, v.2.2.2.2.1, v.2.2.2.2.2.1, v.2.2.2.2.2.2.1, (lN n), v.2.2.2.2.2.2.2.2.1, v.2.2.2.2.2.2.2.2.2.1, v.2.2.2.2.2.2.2.2.2.2)) H := hP
    have hD : va_D A (mdW g a (v.1, v.2.1, v.2.2.1, v.2.2.2.1, v.2.2.2.2.1, v.2.2.2.2.2.1, v.2.2.2.2.2.2.1, (lN n), v.2.2.2.2.2.2.2.2.1, v.2.2.2.2.2.2.2.2.2.1, v.2.2.2.2.2.2.2.2.2.2)) := hD
    refine lv_iload_n hx hb dX5_seed_19 rfl (lv_at hl 0 rfl) ?_
    exact hend _ _ _ _ _ (v.1, v.2.1, v.2.2.1, v.2.2.2.1, v.2.2.2.2.1, v.2.2.2.2.2.1, v.2.2.2.2.2.2.1, (lN n), v.2.2.2.2.2.2.2.2.1, v.2.2.2.2.2.2.2.2.2.1, v.2.2.2.2.2.2.2.2.2.2) dX5_seed_20 (sp_an (o_seed_y hn) (sp_M_sets hX n)) hP hD hS
  · refine lv_ldc (v := (-1000000002)) hx hb hown (hts _ (List.mem_of_getElem? (i := 1) rfl)) dX5_seed_4 ?_
    exact hend _ _ _ _ _ v dX5_seed_6 (sp_an (o_seed_n (Int32.not_le.mp c1)) hX) hP hD hS

set_option maxHeartbeats 4000000 in
set_option maxRecDepth 100000 in
theorem c_X5_keep (l : Launch) (g : sp_G) (a : sp_A9) (v : sp_V) (x : sp_S) (hX : sp_M v x) (B : Nat) (hJ : sp_J x B) (hB : B ≤ 150000) (i0 : Int32) : sp_CI l g yX5_keep wsX5_keep ({ frames := 1, cells := 0, slots := 0, locals := 22 }) [.ref a.1, .int i0] (mdW g a v) (fun r (w : sp_V) => r = (o_keep x i0).1 ∧ sp_M w (o_keep x i0).2) (fun w => mdW g a w) := by
  obtain ⟨t, z⟩ := x
  refine sp_CI.of (cc := cX5_keep) (maxL := 3) (by decide) rfl (Nat.le_of_ble_eq_true rfl) ?_
  intro p e s m below meth c Q A ls SF hK hP hD hA hl hend
  have hx := SF.1
  have hb := SF.2.1
  have hown : s.vm.findClass RX5 = some m.cls := SF.2.2.2.1
  have hts := SF.2.2.2.2
  have hS : va_S A s.heap s.heap [] := va_S.rf
  have inX5 : ∀ w ∈ wsX50, w ∈ wsX5_keep := fun w h => List.mem_cons_of_mem _ (List.mem_append_right _ h)
  have hl : lv_has ls 3 [(0, .ref a.1), (1, .int i0)] := hl
  have hM : sp_Rm v.1 t := hX.now
  have hI : sp_I t := hJ.now
  have hn8 := hI.n
  have hdB : td t ≤ B := hJ.d
  refine lv_iload_n hx hb dX5_keep_0 rfl (lv_at hl 1 rfl) ?_
  refine lv_iconst (v := nI 0) hx hb dX5_keep_1 (by decide) ?_
  refine lv_iconst (v := nI 1) hx hb dX5_keep_2 (by decide) ?_
  refine sp_si (n := 3) (wc := []) (wr := (mdW g a v)) SF hK hA (c_X5_in l g i0 (nI 0) (nI 1)) gX5_keep_X5_in rfl rfl rfl (by decide +kernel) rfl ⟨Nat.le_of_ble_eq_true rfl, Nat.le_of_ble_eq_true rfl⟩ hP hD hS hl.1 rfl (Nat.le_of_ble_eq_true rfl) dX5_keep_3 (fun r9 u9 H locs hbb hP hD hS => ?_)
  obtain ⟨bb, rfl, hbb⟩ := hbb
  have hP : va_P g.1 vwCl (mdW g a v) H := hP
  have hD : va_D A (mdW g a v) := hD
  refine lv_if_ne (tgt := 12) hx hb dX5_keep_6 (by decide) (fun c1 => ?_) (fun c1 => ?_)
  · have c1 := sp_b0n.mp c1
    obtain ⟨n, h1, h2, rfl⟩ := sp_inI_t (by omega) (by omega) (hbb.symm.trans c1)
    refine lv_iconst (v := nI 0) hx hb dX5_keep_12 (by decide) ?_
    refine lv_istore_n (lv' := [(2, .int (nI 0)), (0, .ref a.1), (1, .int (nI n))]) hx hb dX5_keep_13 rfl hl (by decide) rfl (fun ls hl => ?_)
    have hloop14 : ∀ (n14 : Nat) (k : Nat) (h : Nat → Int32) (H : Heap) (locs : List Loc) (ls : Array Slot), (k ≤ 38) → (∀ j, j < k → h (38 * n + j) = v.1 j) → (∀ j, (j < 38 * n ∨ 38 * n + 38 ≤ j) → h j = v.2.2.2.2.1 j) → 38 - k < n14 → va_P g.1 vwCl (mdW g a (v.1, v.2.1, v.2.2.1, v.2.2.2.1, h, v.2.2.2.2.2.1, v.2.2.2.2.2.2.1, v.2.2.2.2.2.2.2.1, v.2.2.2.2.2.2.2.2.1, v.2.2.2.2.2.2.2.2.2.1, v.2.2.2.2.2.2.2.2.2.2)) H → va_D A (mdW g a (v.1, v.2.1, v.2.2.1, v.2.2.2.1, h, v.2.2.2.2.2.1, v.2.2.2.2.2.2.1, v.2.2.2.2.2.2.2.1, v.2.2.2.2.2.2.2.2.1, v.2.2.2.2.2.2.2.2.2.1, v.2.2.2.2.2.2.2.2.2.2)) → va_S A s.heap H locs → lv_has ls 3 [(0, .ref a.1), (1, .int (nI n)), (2, .int (nI k))] → W p l e ({ frames := 1, cells := 0, slots := 0, locals := 22 }) s m ([.ref a.1, .int (nI n)] : List Value).toArray below meth c H locs 0 0 Q (F0 m 14 ls []) := by
      intro n14
      induction n14 with
      | zero =>
        intro k h H locs ls hk hh hh2 h9
        exact absurd h9 (Nat.not_lt_zero _)
      | succ n14 ih14 =>
        intro k h H locs ls hk hh hh2 hm14 hP hD hS hl
        refine lv_iload_n hx hb dX5_keep_14 rfl (lv_at hl 2 rfl) ?_
        refine lv_bipush (v := nI 38) hx hb dX5_keep_15 (by decide) ?_
        refine lv_icmp_ge (tgt := 43) hx hb dX5_keep_17 (by decide) (fun c2 => ?_) (fun c2 => ?_)
        · have c2 := (nI_leI (by omega) (by omega)).mp c2
          refine lv_aload_n hx hb dX5_keep_43 rfl (lv_at hl 0 rfl) ?_
          refine va_get (D := g.1) (ci := 5) (v := .ref a.2.2.2.2.2.1) (C := RX5) (T := TX5) (N := 11) hx hb hts inX5 hown hK.1 hP 0 rfl rfl 5 (by decide) (hts _ (List.mem_of_getElem? (i := 4) rfl)) (fun _ h9 => h9) rfl dX5_keep_44 ?_
          refine lv_iload_n hx hb dX5_keep_47 rfl (lv_at hl 1 rfl) ?_
          refine lv_aload_n hx hb dX5_keep_48 rfl (lv_at hl 0 rfl) ?_
          refine va_get (D := g.1) (ci := 5) (v := .long v.2.2.2.2.2.2.2.1) (C := RX5) (T := TX5) (N := 11) hx hb hts inX5 hown hK.1 hP 0 rfl rfl 7 (by decide) (hts _ (List.mem_of_getElem? (i := 5) rfl)) (fun _ h9 => h9) rfl dX5_keep_49 ?_
          refine sp_top_l (y := lN (s_sd (t, z))) (hX.see) ?_
          refine va_last hx hb hK.1 hP hD hS 5 1 rfl rfl (vp_in_nI (by omega) (by omega)) dX5_keep_52 (fun H locs hP hD hS => ?_)
          rw [sp_c8 (k := n) (by omega)] at hP hD
          have hP : va_P g.1 vwCl (mdW g a (v.1, v.2.1, v.2.2.1, v.2.2.2.1, h, (vp_updL v.2.2.2.2.2.1 n (lN (s_sd (t, z)))), v.2.2.2.2.2.2.1, v.2.2.2.2.2.2.2.1, v.2.2.2.2.2.2.2.2.1, v.2.2.2.2.2.2.2.2.2.1, v.2.2.2.2.2.2.2.2.2.2)) H := hP
          have hD : va_D A (mdW g a (v.1, v.2.1, v.2.2.1, v.2.2.2.1, h, (vp_updL v.2.2.2.2.2.1 n (lN (s_sd (t, z)))), v.2.2.2.2.2.2.1, v.2.2.2.2.2.2.2.1, v.2.2.2.2.2.2.2.2.1, v.2.2.2.2.2.2.2.2.2.1, v.2.2.2.2.2.2.2.2.2.2)) := hD
          refine lv_aload_n hx hb dX5_keep_53 rfl (lv_at hl 0 rfl) ?_
          refine va_get (D := g.1) (ci := 5) (v := .ref a.2.2.2.2.2.2.1) (C := RX5) (T := TX5) (N := 11) hx hb hts inX5 hown hK.1 hP 0 rfl rfl 6 (by decide) (hts _ (List.mem_of_getElem? (i := 6) rfl)) (fun _ h9 => h9) rfl dX5_keep_54 ?_
          refine lv_iload_n hx hb dX5_keep_57 rfl (lv_at hl 1 rfl) ?_
          refine lv_iconst (v := nI 1) hx hb dX5_keep_58 (by decide) ?_
          refine va_zast hx hb hK.1 hP hD hS 6 2 rfl rfl (vp_in_nI (by omega) (by omega)) dX5_keep_59 (fun H locs hP hD hS => ?_)
          rw [sp_c8 (k := n) (by omega)] at hP hD
          have hP : va_P g.1 vwCl (mdW g a (v.1, v.2.1, v.2.2.1, v.2.2.2.1, h, (vp_updL v.2.2.2.2.2.1 n (lN (s_sd (t, z)))), (upd v.2.2.2.2.2.2.1 n (vp_nar .boolean (nI 1))), v.2.2.2.2.2.2.2.1, v.2.2.2.2.2.2.2.2.1, v.2.2.2.2.2.2.2.2.2.1, v.2.2.2.2.2.2.2.2.2.2)) H := hP
          have hD : va_D A (mdW g a (v.1, v.2.1, v.2.2.1, v.2.2.2.1, h, (vp_updL v.2.2.2.2.2.1 n (lN (s_sd (t, z)))), (upd v.2.2.2.2.2.2.1 n (vp_nar .boolean (nI 1))), v.2.2.2.2.2.2.2.1, v.2.2.2.2.2.2.2.2.1, v.2.2.2.2.2.2.2.2.2.1, v.2.2.2.2.2.2.2.2.2.2)) := hD
          rw [sp_nar1] at hP hD
          have hP : va_P g.1 vwCl (mdW g a (v.1, v.2.1, v.2.2.1, v.2.2.2.1, h, (vp_updL v.2.2.2.2.2.1 n (lN (s_sd (t, z)))), (upd v.2.2.2.2.2.2.1 n (nI 1)), v.2.2.2.2.2.2.2.1, v.2.2.2.2.2.2.2.2.1, v.2.2.2.2.2.2.2.2.2.1, v.2.2.2.2.2.2.2.2.2.2)) H := hP
          have hD : va_D A (mdW g a (v.1, v.2.1, v.2.2.1, v.2.2.2.1, h, (vp_updL v.2.2.2.2.2.1 n (lN (s_sd (t, z)))), (upd v.2.2.2.2.2.2.1 n (nI 1)), v.2.2.2.2.2.2.2.1, v.2.2.2.2.2.2.2.2.1, v.2.2.2.2.2.2.2.2.2.1, v.2.2.2.2.2.2.2.2.2.2)) := hD
          refine lv_aload_n hx hb dX5_keep_60 rfl (lv_at hl 0 rfl) ?_
          refine lv_iconst (v := nI 0) hx hb dX5_keep_61 (by decide) ?_
          refine va_put (D := g.1) (ci := 5) (v := .int (nI 0)) (ty := .int) (C := RX5) (T := TX5) (N := 11) hx hb hts inX5 tyX5 tyX5_ok nmX5 hown hK.1 hP hD hS 0 rfl rfl 3 (by decide) (hts _ (List.mem_of_getElem? (i := 7) rfl)) (fun _ h9 => h9) rfl (by decide +kernel) rfl rfl (Nat.le_of_ble_eq_true rfl) dX5_keep_62 (fun H locs hP hD hS => ?_)
          have hP : va_P g.1 vwCl (mdW g a (v.1, v.2.1, v.2.2.1, (nI 0), h, (vp_updL v.2.2.2.2.2.1 n (lN (s_sd (t, z)))), (upd v.2.2.2.2.2.2.1 n (nI 1)), v.2.2.2.2.2.2.2.1, v.2.2.2.2.2.2.2.2.1, v.2.2.2.2.2.2.2.2.2.1, v.2.2.2.2.2.2.2.2.2.2)) H := hP
          have hD : va_D A (mdW g a (v.1, v.2.1, v.2.2.1, (nI 0), h, (vp_updL v.2.2.2.2.2.1 n (lN (s_sd (t, z)))), (upd v.2.2.2.2.2.2.1 n (nI 1)), v.2.2.2.2.2.2.2.1, v.2.2.2.2.2.2.2.2.1, v.2.2.2.2.2.2.2.2.2.1, v.2.2.2.2.2.2.2.2.2.2)) := hD
          refine lv_iconst (v := nI 1) hx hb dX5_keep_65 (by decide) ?_
          exact hend _ _ _ _ _ (v.1, v.2.1, v.2.2.1, (nI 0), h, (vp_updL v.2.2.2.2.2.1 n (lN (s_sd (t, z)))), (upd v.2.2.2.2.2.2.1 n (nI 1)), v.2.2.2.2.2.2.2.1, v.2.2.2.2.2.2.2.2.1, v.2.2.2.2.2.2.2.2.2.1, v.2.2.2.2.2.2.2.2.2.2) dX5_keep_66 (sp_an (o_keep_y (by omega)) (sp_M_keep hX hn8 (fun j hj hk => (hJ.im hj hk).1.n) (by omega) (fun j hj => hh j (by omega)) hh2)) hP hD hS
        · have c2 := mt (nI_leI (by omega) (by omega)).mpr c2
          refine lv_aload_n hx hb dX5_keep_20 rfl (lv_at hl 0 rfl) ?_
          refine va_get (D := g.1) (ci := 5) (v := .ref a.2.2.2.2.1) (C := RX5) (T := TX5) (N := 11) hx hb hts inX5 hown hK.1 hP 0 rfl rfl 4 (by decide) (hts _ (List.mem_of_getElem? (i := 2) rfl)) (fun _ h9 => h9) rfl dX5_keep_21 ?_
          refine lv_bipush (v := nI 38) hx hb dX5_keep_24 (by decide) ?_
          refine lv_iload_n hx hb dX5_keep_26 rfl (lv_at hl 1 rfl) ?_
          refine lv_imul hx hb dX5_keep_27 ?_
          refine sp_top (y := nI (38 * n)) (sp_mul _ _) ?_
          refine lv_iload_n hx hb dX5_keep_28 rfl (lv_at hl 2 rfl) ?_
          refine lv_iadd hx hb dX5_keep_29 ?_
          refine sp_top (y := nI ((38 * n) + k)) (nI_add _ _) ?_
          refine lv_aload_n hx hb dX5_keep_30 rfl (lv_at hl 0 rfl) ?_
          refine va_get (D := g.1) (ci := 5) (v := .ref a.2.1) (C := RX5) (T := TX5) (N := 11) hx hb hts inX5 hown hK.1 hP 0 rfl rfl 0 (by decide) (hts _ (List.mem_of_getElem? (i := 3) rfl)) (fun _ h9 => h9) rfl dX5_keep_31 ?_
          refine lv_iload_n hx hb dX5_keep_34 rfl (lv_at hl 2 rfl) ?_
          refine va_iald hx hb hK.1 hP 1 0 rfl rfl (vp_in_nI (by omega) (by omega)) dX5_keep_35 ?_
          refine sp_top (y := v.1 k) (congrArg v.1 (sp_c8 (k := k) (by omega))) ?_
          refine va_iast hx hb hK.1 hP hD hS 4 0 rfl rfl (vp_in_nI (by omega) (by omega)) dX5_keep_36 (fun H locs hP hD hS => ?_)
          rw [sp_c8 (k := ((38 * n) + k)) (by omega)] at hP hD
          have hP : va_P g.1 vwCl (mdW g a (v.1, v.2.1, v.2.2.1, v.2.2.2.1, (upd h ((38 * n) + k) (v.1 k)), v.2.2.2.2.2.1, v.2.2.2.2.2.2.1, v.2.2.2.2.2.2.2.1, v.2.2.2.2.2.2.2.2.1, v.2.2.2.2.2.2.2.2.2.1, v.2.2.2.2.2.2.2.2.2.2)) H := hP
          have hD : va_D A (mdW g a (v.1, v.2.1, v.2.2.1, v.2.2.2.1, (upd h ((38 * n) + k) (v.1 k)), v.2.2.2.2.2.1, v.2.2.2.2.2.2.1, v.2.2.2.2.2.2.2.1, v.2.2.2.2.2.2.2.2.1, v.2.2.2.2.2.2.2.2.2.1, v.2.2.2.2.2.2.2.2.2.2)) := hD
          refine lv_iinc (v := nI (k + 1)) (lv' := [(2, .int (nI (k + 1))), (0, .ref a.1), (1, .int (nI n))]) hx hb dX5_keep_37 hl (k := 2) rfl (nI_1 k) (by decide) rfl (fun ls hl => ?_)
          refine lv_goto (tgt := 14) hx hb dX5_keep_40 (by decide) ?_
          exact ih14 (k + 1) (upd h (38 * n + k) (v.1 k)) _ _ _ (by omega) (fun j hj => by
            by_cases hz : j = k
            · rw [hz, sp_upd_s]
            · rw [sp_upd_n (by omega)]; exact hh j (by omega)) (fun j hj => by rw [sp_upd_n (by omega)]; exact hh2 j hj) (by omega) hP hD hS (lv_sub hl [1, 2, 0] rfl)
    exact hloop14 (_ + 1) 0 v.2.2.2.2.1 _ _ _ (by omega) (fun j hj => absurd hj (Nat.not_lt_zero j)) (fun _ _ => rfl) (Nat.lt_succ_self _) hP hD hS (lv_sub hl [1, 2, 0] rfl)
  · have c1 := sp_b0.mp c1
    refine lv_ldc (v := (-1000000001)) hx hb hown (hts _ (List.mem_of_getElem? (i := 1) rfl)) dX5_keep_9 ?_
    exact hend _ _ _ _ _ v dX5_keep_11 (sp_an (o_keep_u (hbb.symm.trans c1)) hX) hP hD hS

set_option maxHeartbeats 4000000 in
set_option maxRecDepth 100000 in
theorem c_X5_goBack (l : Launch) (g : sp_G) (a : sp_A9) (v : sp_V) (x : sp_S) (hX : sp_M v x) (B : Nat) (hJ : sp_J x B) (hB : B ≤ 150000) (i0 : Int32) : sp_CI l g yX5_goBack wsX5_goBack ({ frames := 1, cells := 0, slots := 0, locals := 22 }) [.ref a.1, .int i0] (mdW g a v) (fun r (w : sp_V) => r = (o_goB x i0).1 ∧ sp_M w (o_goB x i0).2) (fun w => mdW g a w) := by
  obtain ⟨t, z⟩ := x
  refine sp_CI.of (cc := cX5_goBack) (maxL := 3) (by decide) rfl (Nat.le_of_ble_eq_true rfl) ?_
  intro p e s m below meth c Q A ls SF hK hP hD hA hl hend
  have hx := SF.1
  have hb := SF.2.1
  have hown : s.vm.findClass RX5 = some m.cls := SF.2.2.2.1
  have hts := SF.2.2.2.2
  have hS : va_S A s.heap s.heap [] := va_S.rf
  have inX5 : ∀ w ∈ wsX50, w ∈ wsX5_goBack := fun w h => List.mem_cons_of_mem _ (List.mem_append_right _ h)
  have hl : lv_has ls 3 [(0, .ref a.1), (1, .int i0)] := hl
  have hM : sp_Rm v.1 t := hX.now
  have hI : sp_I t := hJ.now
  have hn8 := hI.n
  have hdB : td t ≤ B := hJ.d
  refine lv_iload_n hx hb dX5_goBack_0 rfl (lv_at hl 1 rfl) ?_
  refine lv_iconst (v := nI 0) hx hb dX5_goBack_1 (by decide) ?_
  refine lv_iconst (v := nI 1) hx hb dX5_goBack_2 (by decide) ?_
  refine sp_si (n := 3) (wc := []) (wr := (mdW g a v)) SF hK hA (c_X5_in l g i0 (nI 0) (nI 1)) gX5_goBack_X5_in rfl rfl rfl (by decide +kernel) rfl ⟨Nat.le_of_ble_eq_true rfl, Nat.le_of_ble_eq_true rfl⟩ hP hD hS hl.1 rfl (Nat.le_of_ble_eq_true rfl) dX5_goBack_3 (fun r9 u9 H locs hbb hP hD hS => ?_)
  obtain ⟨bb, rfl, hbb⟩ := hbb
  have hP : va_P g.1 vwCl (mdW g a v) H := hP
  have hD : va_D A (mdW g a v) := hD
  refine lv_if_ne (tgt := 12) hx hb dX5_goBack_6 (by decide) (fun c1 => ?_) (fun c1 => ?_)
  · have c1 := sp_b0n.mp c1
    obtain ⟨n, h1, h2, rfl⟩ := sp_inI_t (by omega) (by omega) (hbb.symm.trans c1)
    refine lv_aload_n hx hb dX5_goBack_12 rfl (lv_at hl 0 rfl) ?_
    refine va_get (D := g.1) (ci := 5) (v := .ref a.2.2.2.2.2.2.1) (C := RX5) (T := TX5) (N := 11) hx hb hts inX5 hown hK.1 hP 0 rfl rfl 6 (by decide) (hts _ (List.mem_of_getElem? (i := 2) rfl)) (fun _ h9 => h9) rfl dX5_goBack_13 ?_
    refine lv_iload_n hx hb dX5_goBack_16 rfl (lv_at hl 1 rfl) ?_
    refine va_zald hx hb hK.1 hP 6 2 rfl rfl (vp_in_nI (by omega) (by omega)) dX5_goBack_17 ?_
    refine sp_top (y := v.2.2.2.2.2.2.1 n) (congrArg v.2.2.2.2.2.2.1 (sp_c8 (k := n) (by omega))) ?_
    refine sp_top (y := bI (s_ik (t, z) n)) (hX.kep (by omega)) ?_
    refine lv_if_ne (tgt := 24) hx hb dX5_goBack_18 (by decide) (fun c2 => ?_) (fun c2 => ?_)
    · have c2 := sp_b0n.mp c2
      refine lv_iconst (v := nI 0) hx hb dX5_goBack_24 (by decide) ?_
      refine lv_istore_n (lv' := [(2, .int (nI 0)), (0, .ref a.1), (1, .int (nI n))]) hx hb dX5_goBack_25 rfl hl (by decide) rfl (fun ls hl => ?_)
      have hloop26 : ∀ (n26 : Nat) (k : Nat) (h : Nat → Int32) (H : Heap) (locs : List Loc) (ls : Array Slot), (k ≤ 38) → (∀ j, j < k → h j = v.2.2.2.2.1 (38 * n + j)) → 38 - k < n26 → va_P g.1 vwCl (mdW g a (h, v.2.1, v.2.2.1, v.2.2.2.1, v.2.2.2.2.1, v.2.2.2.2.2.1, v.2.2.2.2.2.2.1, v.2.2.2.2.2.2.2.1, v.2.2.2.2.2.2.2.2.1, v.2.2.2.2.2.2.2.2.2.1, v.2.2.2.2.2.2.2.2.2.2)) H → va_D A (mdW g a (h, v.2.1, v.2.2.1, v.2.2.2.1, v.2.2.2.2.1, v.2.2.2.2.2.1, v.2.2.2.2.2.2.1, v.2.2.2.2.2.2.2.1, v.2.2.2.2.2.2.2.2.1, v.2.2.2.2.2.2.2.2.2.1, v.2.2.2.2.2.2.2.2.2.2)) → va_S A s.heap H locs → lv_has ls 3 [(0, .ref a.1), (1, .int (nI n)), (2, .int (nI k))] → W p l e ({ frames := 1, cells := 0, slots := 0, locals := 22 }) s m ([.ref a.1, .int (nI n)] : List Value).toArray below meth c H locs 0 0 Q (F0 m 26 ls []) := by
        intro n26
        induction n26 with
        | zero =>
          intro k h H locs ls hk hh h9
          exact absurd h9 (Nat.not_lt_zero _)
        | succ n26 ih26 =>
          intro k h H locs ls hk hh hm26 hP hD hS hl
          refine lv_iload_n hx hb dX5_goBack_26 rfl (lv_at hl 2 rfl) ?_
          refine lv_bipush (v := nI 38) hx hb dX5_goBack_27 (by decide) ?_
          refine lv_icmp_ge (tgt := 55) hx hb dX5_goBack_29 (by decide) (fun c3 => ?_) (fun c3 => ?_)
          · have c3 := (nI_leI (by omega) (by omega)).mp c3
            refine lv_aload_n hx hb dX5_goBack_55 rfl (lv_at hl 0 rfl) ?_
            refine lv_aload_n hx hb dX5_goBack_56 rfl (lv_at hl 0 rfl) ?_
            refine va_get (D := g.1) (ci := 5) (v := .ref a.2.2.2.2.2.1) (C := RX5) (T := TX5) (N := 11) hx hb hts inX5 hown hK.1 hP 0 rfl rfl 5 (by decide) (hts _ (List.mem_of_getElem? (i := 6) rfl)) (fun _ h9 => h9) rfl dX5_goBack_57 ?_
            refine lv_iload_n hx hb dX5_goBack_60 rfl (lv_at hl 1 rfl) ?_
            refine va_lald hx hb hK.1 hP 5 1 rfl rfl (vp_in_nI (by omega) (by omega)) dX5_goBack_61 ?_
            refine sp_top_l (y := v.2.2.2.2.2.1 n) (congrArg v.2.2.2.2.2.1 (sp_c8 (k := n) (by omega))) ?_
            refine sp_top_l (y := lN (s_is (t, z) n)) (hX.ise (by omega) c2) ?_
            refine va_put (D := g.1) (ci := 5) (v := .long (lN (s_is (t, z) n))) (ty := .long) (C := RX5) (T := TX5) (N := 11) hx hb hts inX5 tyX5 tyX5_ok nmX5 hown hK.1 hP hD hS 0 rfl rfl 7 (by decide) (hts _ (List.mem_of_getElem? (i := 7) rfl)) (fun _ h9 => h9) rfl (by decide +kernel) rfl rfl (Nat.le_of_ble_eq_true rfl) dX5_goBack_62 (fun H locs hP hD hS => ?_)
            have hP : va_P g.1 vwCl (mdW g a (h, v.2.1, v.2.2.1, v.2.2.2.1, v.2.2.2.2.1, v.2.2.2.2.2.1, v.2.2.2.2.2.2.1, (lN (s_is (t, z) n)), v.2.2.2.2.2.2.2.2.1, v.2.2.2.2.2.2.2.2.2.1, v.2.2.2.2.2.2.2.2.2.2)) H := hP
            have hD : va_D A (mdW g a (h, v.2.1, v.2.2.1, v.2.2.2.1, v.2.2.2.2.1, v.2.2.2.2.2.1, v.2.2.2.2.2.2.1, (lN (s_is (t, z) n)), v.2.2.2.2.2.2.2.2.1, v.2.2.2.2.2.2.2.2.2.1, v.2.2.2.2.2.2.2.2.2.2)) := hD
            refine lv_aload_n hx hb dX5_goBack_65 rfl (lv_at hl 0 rfl) ?_
            refine lv_iconst (v := nI 0) hx hb dX5_goBack_66 (by decide) ?_
            refine va_put (D := g.1) (ci := 5) (v := .int (nI 0)) (ty := .int) (C := RX5) (T := TX5) (N := 11) hx hb hts inX5 tyX5 tyX5_ok nmX5 hown hK.1 hP hD hS 0 rfl rfl 3 (by decide) (hts _ (List.mem_of_getElem? (i := 8) rfl)) (fun _ h9 => h9) rfl (by decide +kernel) rfl rfl (Nat.le_of_ble_eq_true rfl) dX5_goBack_67 (fun H locs hP hD hS => ?_)
            have hP : va_P g.1 vwCl (mdW g a (h, v.2.1, v.2.2.1, (nI 0), v.2.2.2.2.1, v.2.2.2.2.2.1, v.2.2.2.2.2.2.1, (lN (s_is (t, z) n)), v.2.2.2.2.2.2.2.2.1, v.2.2.2.2.2.2.2.2.2.1, v.2.2.2.2.2.2.2.2.2.2)) H := hP
            have hD : va_D A (mdW g a (h, v.2.1, v.2.2.1, (nI 0), v.2.2.2.2.1, v.2.2.2.2.2.1, v.2.2.2.2.2.2.1, (lN (s_is (t, z) n)), v.2.2.2.2.2.2.2.2.1, v.2.2.2.2.2.2.2.2.2.1, v.2.2.2.2.2.2.2.2.2.2)) := hD
            refine lv_iconst (v := nI 1) hx hb dX5_goBack_70 (by decide) ?_
            exact hend _ _ _ _ _ (h, v.2.1, v.2.2.1, (nI 0), v.2.2.2.2.1, v.2.2.2.2.2.1, v.2.2.2.2.2.2.1, (lN (s_is (t, z) n)), v.2.2.2.2.2.2.2.2.1, v.2.2.2.2.2.2.2.2.2.1, v.2.2.2.2.2.2.2.2.2.2) dX5_goBack_71 (sp_an (o_goB_y (by omega) c2) (sp_M_goB hX (by omega) c2 (hJ.im (by omega) c2).1.n (fun j hj => hh j (by omega)))) hP hD hS
          · have c3 := mt (nI_leI (by omega) (by omega)).mpr c3
            refine lv_aload_n hx hb dX5_goBack_32 rfl (lv_at hl 0 rfl) ?_
            refine va_get (D := g.1) (ci := 5) (v := .ref a.2.1) (C := RX5) (T := TX5) (N := 11) hx hb hts inX5 hown hK.1 hP 0 rfl rfl 0 (by decide) (hts _ (List.mem_of_getElem? (i := 4) rfl)) (fun _ h9 => h9) rfl dX5_goBack_33 ?_
            refine lv_iload_n hx hb dX5_goBack_36 rfl (lv_at hl 2 rfl) ?_
            refine lv_aload_n hx hb dX5_goBack_37 rfl (lv_at hl 0 rfl) ?_
            refine va_get (D := g.1) (ci := 5) (v := .ref a.2.2.2.2.1) (C := RX5) (T := TX5) (N := 11) hx hb hts inX5 hown hK.1 hP 0 rfl rfl 4 (by decide) (hts _ (List.mem_of_getElem? (i := 5) rfl)) (fun _ h9 => h9) rfl dX5_goBack_38 ?_
            refine lv_bipush (v := nI 38) hx hb dX5_goBack_41 (by decide) ?_
            refine lv_iload_n hx hb dX5_goBack_43 rfl (lv_at hl 1 rfl) ?_
            refine lv_imul hx hb dX5_goBack_44 ?_
            refine sp_top (y := nI (38 * n)) (sp_mul _ _) ?_
            refine lv_iload_n hx hb dX5_goBack_45 rfl (lv_at hl 2 rfl) ?_
            refine lv_iadd hx hb dX5_goBack_46 ?_
            refine sp_top (y := nI ((38 * n) + k)) (nI_add _ _) ?_
            refine va_iald hx hb hK.1 hP 4 0 rfl rfl (vp_in_nI (by omega) (by omega)) dX5_goBack_47 ?_
            refine sp_top (y := v.2.2.2.2.1 ((38 * n) + k)) (congrArg v.2.2.2.2.1 (sp_c8 (k := ((38 * n) + k)) (by omega))) ?_
            refine va_iast hx hb hK.1 hP hD hS 1 0 rfl rfl (vp_in_nI (by omega) (by omega)) dX5_goBack_48 (fun H locs hP hD hS => ?_)
            rw [sp_c8 (k := k) (by omega)] at hP hD
            have hP : va_P g.1 vwCl (mdW g a ((upd h k (v.2.2.2.2.1 ((38 * n) + k))), v.2.1, v.2.2.1, v.2.2.2.1, v.2.2.2.2.1, v.2.2.2.2.2.1, v.2.2.2.2.2.2.1, v.2.2.2.2.2.2.2.1, v.2.2.2.2.2.2.2.2.1, v.2.2.2.2.2.2.2.2.2.1, v.2.2.2.2.2.2.2.2.2.2)) H := hP
            have hD : va_D A (mdW g a ((upd h k (v.2.2.2.2.1 ((38 * n) + k))), v.2.1, v.2.2.1, v.2.2.2.1, v.2.2.2.2.1, v.2.2.2.2.2.1, v.2.2.2.2.2.2.1, v.2.2.2.2.2.2.2.1, v.2.2.2.2.2.2.2.2.1, v.2.2.2.2.2.2.2.2.2.1, v.2.2.2.2.2.2.2.2.2.2)) := hD
            refine lv_iinc (v := nI (k + 1)) (lv' := [(2, .int (nI (k + 1))), (0, .ref a.1), (1, .int (nI n))]) hx hb dX5_goBack_49 hl (k := 2) rfl (nI_1 k) (by decide) rfl (fun ls hl => ?_)
            refine lv_goto (tgt := 26) hx hb dX5_goBack_52 (by decide) ?_
            exact ih26 (k + 1) (upd h k (v.2.2.2.2.1 (38 * n + k))) _ _ _ (by omega) (sp_upd_ext0 (F := fun j => v.2.2.2.2.1 (38 * n + j)) hh rfl) (by omega) hP hD hS (lv_sub hl [1, 2, 0] rfl)
      exact hloop26 (_ + 1) 0 v.1 _ _ _ (by omega) (fun j hj => absurd hj (Nat.not_lt_zero j)) (Nat.lt_succ_self _) hP hD hS (lv_sub hl [1, 2, 0] rfl)
    · have c2 := sp_b0.mp c2
      refine lv_ldc (v := (-1000000003)) hx hb hown (hts _ (List.mem_of_getElem? (i := 3) rfl)) dX5_goBack_21 ?_
      exact hend _ _ _ _ _ v dX5_goBack_23 (sp_an (o_goB_n (by omega) c2) hX) hP hD hS
  · have c1 := sp_b0.mp c1
    refine lv_ldc (v := (-1000000001)) hx hb hown (hts _ (List.mem_of_getElem? (i := 1) rfl)) dX5_goBack_9 ?_
    exact hend _ _ _ _ _ v dX5_goBack_11 (sp_an (o_goB_u (hbb.symm.trans c1)) hX) hP hD hS

