set_option maxHeartbeats 4000000 in
set_option maxRecDepth 100000 in
theorem c_X5_pours (l : Launch) (g : sp_G) (a : sp_A9) (v : sp_V) (t : sp_T) (hM : sp_Rm v.1 t) (hI : sp_I t) (hn : tn t < 8) : sp_CV l g yX5_pours wsX5_pours ({ frames := 5, cells := 0, slots := 0, locals := 114 }) [.ref a.1] (mdW g a v) (fun x : (Nat → Int32) × (Nat → Int32) => sp_Rm x.1 (sp_pour t)) (fun x => mdW g a (x.1, v.2.1, v.2.2.1, v.2.2.2.1, v.2.2.2.2.1, v.2.2.2.2.2.1, v.2.2.2.2.2.2.1, v.2.2.2.2.2.2.2.1, v.2.2.2.2.2.2.2.2.1, v.2.2.2.2.2.2.2.2.2.1, x.2)) := by
  refine sp_CV.of (cc := cX5_pours) (maxL := 2) (by decide) rfl (Nat.le_of_ble_eq_true rfl) ?_
  intro p e s m below meth c Q A ls SF hK hP hD hA hl hend
  have hx := SF.1
  have hb := SF.2.1
  have hown : s.vm.findClass RX5 = some m.cls := SF.2.2.2.1
  have hts := SF.2.2.2.2
  have hS : va_S A s.heap s.heap [] := va_S.rf
  have inX5 : ∀ w ∈ wsX50, w ∈ wsX5_pours := fun w h => List.mem_cons_of_mem _ (List.mem_append_right _ h)
  have hl : lv_has ls 2 [(0, .ref a.1)] := hl
  have hn8 := hI.n
  refine lv_aload_n hx hb dX5_pours_0 rfl (lv_at hl 0 rfl) ?_
  refine va_get (D := g.1) (ci := 5) (v := .ref a.2.1) (C := RX5) (T := TX5) (N := 11) hx hb hts inX5 hown hK.1 hP 0 rfl rfl 0 (by decide) (hts _ (List.mem_of_getElem? (i := 1) rfl)) (fun _ h9 => h9) rfl dX5_pours_1 ?_
  refine lv_iconst (v := nI 1) hx hb dX5_pours_4 (by decide) ?_
  refine va_iald hx hb hK.1 hP 1 0 rfl rfl (vp_in_nI (by omega) (by omega)) dX5_pours_5 ?_
  refine sp_top (y := v.1 1) (congrArg v.1 (sp_c8 (k := 1) (by omega))) ?_
  refine sp_top (y := nI (tn t)) (hM.n) ?_
  refine lv_istore_n (lv' := [(1, .int (nI (tn t))), (0, .ref a.1)]) hx hb dX5_pours_6 rfl hl (by decide) rfl (fun ls hl => ?_)
  refine lv_aload_n hx hb dX5_pours_7 rfl (lv_at hl 1 rfl) ?_
  refine lv_iload_n hx hb dX5_pours_8 rfl (lv_at hl 0 rfl) ?_
  refine lv_iconst (v := nI 0) hx hb dX5_pours_9 (by decide) ?_
  refine lv_aload_n hx hb dX5_pours_10 rfl (lv_at hl 1 rfl) ?_
  refine va_get (D := g.1) (ci := 5) (v := .ref a.2.1) (C := RX5) (T := TX5) (N := 11) hx hb hts inX5 hown hK.1 hP 0 rfl rfl 0 (by decide) (hts _ (List.mem_of_getElem? (i := 1) rfl)) (fun _ h9 => h9) rfl dX5_pours_11 ?_
  refine lv_iconst (v := nI 0) hx hb dX5_pours_14 (by decide) ?_
  refine va_iald hx hb hK.1 hP 1 0 rfl rfl (vp_in_nI (by omega) (by omega)) dX5_pours_15 ?_
  refine sp_top (y := v.1 0) (congrArg v.1 (sp_c8 (k := 0) (by omega))) ?_
  refine sp_top (y := nI (td t)) (hM.d) ?_
  refine sp_vv0 (n := 3) SF hK hA (c_X5_put l g a v (tn t) 0 (by omega) (by omega) (nI (td t))) gX5_pours_X5_put rfl rfl rfl (by decide +kernel) rfl ⟨Nat.le_of_ble_eq_true rfl, Nat.le_of_ble_eq_true rfl⟩ 5 0 rfl rfl hP hD hS hl.1 rfl (Nat.le_of_ble_eq_true rfl) dX5_pours_16 (fun u9 H locs w1 hP hD hS => ?_)
  have hP : va_P g.1 vwCl (mdW g a ((upd v.1 (6 + 4 * (tn t) + 0) (nI (td t))), v.2.1, v.2.2.1, v.2.2.2.1, v.2.2.2.2.1, v.2.2.2.2.2.1, v.2.2.2.2.2.2.1, v.2.2.2.2.2.2.2.1, v.2.2.2.2.2.2.2.2.1, v.2.2.2.2.2.2.2.2.2.1, v.2.2.2.2.2.2.2.2.2.2)) H := hP
  have hD : va_D A (mdW g a ((upd v.1 (6 + 4 * (tn t) + 0) (nI (td t))), v.2.1, v.2.2.1, v.2.2.2.1, v.2.2.2.2.1, v.2.2.2.2.2.1, v.2.2.2.2.2.2.1, v.2.2.2.2.2.2.2.1, v.2.2.2.2.2.2.2.2.1, v.2.2.2.2.2.2.2.2.2.1, v.2.2.2.2.2.2.2.2.2.2)) := hD
  refine lv_aload_n hx hb dX5_pours_19 rfl (lv_at hl 1 rfl) ?_
  refine lv_iload_n hx hb dX5_pours_20 rfl (lv_at hl 0 rfl) ?_
  refine lv_iconst (v := nI 1) hx hb dX5_pours_21 (by decide) ?_
  refine lv_iconst (v := nI 0) hx hb dX5_pours_22 (by decide) ?_
  refine sp_vv0 (n := 3) SF hK hA (c_X5_put l g a ((upd v.1 (6 + 4 * (tn t) + 0) (nI (td t))), v.2.1, v.2.2.1, v.2.2.2.1, v.2.2.2.2.1, v.2.2.2.2.2.1, v.2.2.2.2.2.2.1, v.2.2.2.2.2.2.2.1, v.2.2.2.2.2.2.2.2.1, v.2.2.2.2.2.2.2.2.2.1, v.2.2.2.2.2.2.2.2.2.2) (tn t) 1 (by omega) (by omega) (nI 0)) gX5_pours_X5_put rfl rfl rfl (by decide +kernel) rfl ⟨Nat.le_of_ble_eq_true rfl, Nat.le_of_ble_eq_true rfl⟩ 5 0 rfl rfl hP hD hS hl.1 rfl (Nat.le_of_ble_eq_true rfl) dX5_pours_23 (fun u9 H locs w2 hP hD hS => ?_)
  have hP : va_P g.1 vwCl (mdW g a ((upd (upd v.1 (6 + 4 * (tn t) + 0) (nI (td t))) (6 + 4 * (tn t) + 1) (nI 0)), v.2.1, v.2.2.1, v.2.2.2.1, v.2.2.2.2.1, v.2.2.2.2.2.1, v.2.2.2.2.2.2.1, v.2.2.2.2.2.2.2.1, v.2.2.2.2.2.2.2.2.1, v.2.2.2.2.2.2.2.2.2.1, v.2.2.2.2.2.2.2.2.2.2)) H := hP
  have hD : va_D A (mdW g a ((upd (upd v.1 (6 + 4 * (tn t) + 0) (nI (td t))) (6 + 4 * (tn t) + 1) (nI 0)), v.2.1, v.2.2.1, v.2.2.2.1, v.2.2.2.2.1, v.2.2.2.2.2.1, v.2.2.2.2.2.2.1, v.2.2.2.2.2.2.2.1, v.2.2.2.2.2.2.2.2.1, v.2.2.2.2.2.2.2.2.2.1, v.2.2.2.2.2.2.2.2.2.2)) := hD
  refine lv_aload_n hx hb dX5_pours_26 rfl (lv_at hl 1 rfl) ?_
  refine lv_iload_n hx hb dX5_pours_27 rfl (lv_at hl 0 rfl) ?_
  refine lv_iconst (v := nI 2) hx hb dX5_pours_28 (by decide) ?_
  refine lv_iconst (v := nI 0) hx hb dX5_pours_29 (by decide) ?_
  refine sp_vv0 (n := 3) SF hK hA (c_X5_put l g a ((upd (upd v.1 (6 + 4 * (tn t) + 0) (nI (td t))) (6 + 4 * (tn t) + 1) (nI 0)), v.2.1, v.2.2.1, v.2.2.2.1, v.2.2.2.2.1, v.2.2.2.2.2.1, v.2.2.2.2.2.2.1, v.2.2.2.2.2.2.2.1, v.2.2.2.2.2.2.2.2.1, v.2.2.2.2.2.2.2.2.2.1, v.2.2.2.2.2.2.2.2.2.2) (tn t) 2 (by omega) (by omega) (nI 0)) gX5_pours_X5_put rfl rfl rfl (by decide +kernel) rfl ⟨Nat.le_of_ble_eq_true rfl, Nat.le_of_ble_eq_true rfl⟩ 5 0 rfl rfl hP hD hS hl.1 rfl (Nat.le_of_ble_eq_true rfl) dX5_pours_30 (fun u9 H locs w3 hP hD hS => ?_)
  have hP : va_P g.1 vwCl (mdW g a ((upd (upd (upd v.1 (6 + 4 * (tn t) + 0) (nI (td t))) (6 + 4 * (tn t) + 1) (nI 0)) (6 + 4 * (tn t) + 2) (nI 0)), v.2.1, v.2.2.1, v.2.2.2.1, v.2.2.2.2.1, v.2.2.2.2.2.1, v.2.2.2.2.2.2.1, v.2.2.2.2.2.2.2.1, v.2.2.2.2.2.2.2.2.1, v.2.2.2.2.2.2.2.2.2.1, v.2.2.2.2.2.2.2.2.2.2)) H := hP
  have hD : va_D A (mdW g a ((upd (upd (upd v.1 (6 + 4 * (tn t) + 0) (nI (td t))) (6 + 4 * (tn t) + 1) (nI 0)) (6 + 4 * (tn t) + 2) (nI 0)), v.2.1, v.2.2.1, v.2.2.2.1, v.2.2.2.2.1, v.2.2.2.2.2.1, v.2.2.2.2.2.2.1, v.2.2.2.2.2.2.2.1, v.2.2.2.2.2.2.2.2.1, v.2.2.2.2.2.2.2.2.2.1, v.2.2.2.2.2.2.2.2.2.2)) := hD
  refine lv_aload_n hx hb dX5_pours_33 rfl (lv_at hl 1 rfl) ?_
  refine lv_iload_n hx hb dX5_pours_34 rfl (lv_at hl 0 rfl) ?_
  refine lv_iconst (v := nI 3) hx hb dX5_pours_35 (by decide) ?_
  refine lv_iconst (v := nI 1) hx hb dX5_pours_36 (by decide) ?_
  refine sp_vv0 (n := 3) SF hK hA (c_X5_put l g a ((upd (upd (upd v.1 (6 + 4 * (tn t) + 0) (nI (td t))) (6 + 4 * (tn t) + 1) (nI 0)) (6 + 4 * (tn t) + 2) (nI 0)), v.2.1, v.2.2.1, v.2.2.2.1, v.2.2.2.2.1, v.2.2.2.2.2.1, v.2.2.2.2.2.2.1, v.2.2.2.2.2.2.2.1, v.2.2.2.2.2.2.2.2.1, v.2.2.2.2.2.2.2.2.2.1, v.2.2.2.2.2.2.2.2.2.2) (tn t) 3 (by omega) (by omega) (nI 1)) gX5_pours_X5_put rfl rfl rfl (by decide +kernel) rfl ⟨Nat.le_of_ble_eq_true rfl, Nat.le_of_ble_eq_true rfl⟩ 5 0 rfl rfl hP hD hS hl.1 rfl (Nat.le_of_ble_eq_true rfl) dX5_pours_37 (fun u9 H locs w4 hP hD hS => ?_)
  have hP : va_P g.1 vwCl (mdW g a ((upd (upd (upd (upd v.1 (6 + 4 * (tn t) + 0) (nI (td t))) (6 + 4 * (tn t) + 1) (nI 0)) (6 + 4 * (tn t) + 2) (nI 0)) (6 + 4 * (tn t) + 3) (nI 1)), v.2.1, v.2.2.1, v.2.2.2.1, v.2.2.2.2.1, v.2.2.2.2.2.1, v.2.2.2.2.2.2.1, v.2.2.2.2.2.2.2.1, v.2.2.2.2.2.2.2.2.1, v.2.2.2.2.2.2.2.2.2.1, v.2.2.2.2.2.2.2.2.2.2)) H := hP
  have hD : va_D A (mdW g a ((upd (upd (upd (upd v.1 (6 + 4 * (tn t) + 0) (nI (td t))) (6 + 4 * (tn t) + 1) (nI 0)) (6 + 4 * (tn t) + 2) (nI 0)) (6 + 4 * (tn t) + 3) (nI 1)), v.2.1, v.2.2.1, v.2.2.2.1, v.2.2.2.2.1, v.2.2.2.2.2.1, v.2.2.2.2.2.2.1, v.2.2.2.2.2.2.2.1, v.2.2.2.2.2.2.2.2.1, v.2.2.2.2.2.2.2.2.2.1, v.2.2.2.2.2.2.2.2.2.2)) := hD
  refine lv_aload_n hx hb dX5_pours_40 rfl (lv_at hl 1 rfl) ?_
  refine va_get (D := g.1) (ci := 5) (v := .ref a.2.1) (C := RX5) (T := TX5) (N := 11) hx hb hts inX5 hown hK.1 hP 0 rfl rfl 0 (by decide) (hts _ (List.mem_of_getElem? (i := 1) rfl)) (fun _ h9 => h9) rfl dX5_pours_41 ?_
  refine lv_iconst (v := nI 1) hx hb dX5_pours_44 (by decide) ?_
  refine lv_dup2_11 hx hb dX5_pours_45 rfl rfl ?_
  refine va_iald hx hb hK.1 hP 1 0 rfl rfl (vp_in_nI (by omega) (by omega)) dX5_pours_46 ?_
  refine sp_top (y := (upd (upd (upd (upd v.1 (6 + 4 * (tn t) + 0) (nI (td t))) (6 + 4 * (tn t) + 1) (nI 0)) (6 + 4 * (tn t) + 2) (nI 0)) (6 + 4 * (tn t) + 3) (nI 1)) 1) (congrArg (upd (upd (upd (upd v.1 (6 + 4 * (tn t) + 0) (nI (td t))) (6 + 4 * (tn t) + 1) (nI 0)) (6 + 4 * (tn t) + 2) (nI 0)) (6 + 4 * (tn t) + 3) (nI 1)) (sp_c8 (k := 1) (by omega))) ?_
  refine sp_top (y := nI (tn t)) (by rw [sp_upd_n (by omega), sp_upd_n (by omega), sp_upd_n (by omega), sp_upd_n (by omega)]; exact hM.n) ?_
  refine lv_iconst (v := nI 1) hx hb dX5_pours_47 (by decide) ?_
  refine lv_iadd hx hb dX5_pours_48 ?_
  refine sp_top (y := nI ((tn t) + 1)) (nI_add _ _) ?_
  refine va_iast hx hb hK.1 hP hD hS 1 0 rfl rfl (vp_in_nI (by omega) (by omega)) dX5_pours_49 (fun H locs hP hD hS => ?_)
  rw [sp_c8 (k := 1) (by omega)] at hP hD
  have hP : va_P g.1 vwCl (mdW g a ((upd (upd (upd (upd (upd v.1 (6 + 4 * (tn t) + 0) (nI (td t))) (6 + 4 * (tn t) + 1) (nI 0)) (6 + 4 * (tn t) + 2) (nI 0)) (6 + 4 * (tn t) + 3) (nI 1)) 1 (nI ((tn t) + 1))), v.2.1, v.2.2.1, v.2.2.2.1, v.2.2.2.2.1, v.2.2.2.2.2.1, v.2.2.2.2.2.2.1, v.2.2.2.2.2.2.2.1, v.2.2.2.2.2.2.2.2.1, v.2.2.2.2.2.2.2.2.2.1, v.2.2.2.2.2.2.2.2.2.2)) H := hP
  have hD : va_D A (mdW g a ((upd (upd (upd (upd (upd v.1 (6 + 4 * (tn t) + 0) (nI (td t))) (6 + 4 * (tn t) + 1) (nI 0)) (6 + 4 * (tn t) + 2) (nI 0)) (6 + 4 * (tn t) + 3) (nI 1)) 1 (nI ((tn t) + 1))), v.2.1, v.2.2.1, v.2.2.2.1, v.2.2.2.2.1, v.2.2.2.2.2.1, v.2.2.2.2.2.2.1, v.2.2.2.2.2.2.2.1, v.2.2.2.2.2.2.2.2.1, v.2.2.2.2.2.2.2.2.2.1, v.2.2.2.2.2.2.2.2.2.2)) := hD
  refine lv_aload_n hx hb dX5_pours_50 rfl (lv_at hl 1 rfl) ?_
  refine lv_iload_n hx hb dX5_pours_51 rfl (lv_at hl 0 rfl) ?_
  refine lv_aload_n hx hb dX5_pours_52 rfl (lv_at hl 1 rfl) ?_
  refine va_get (D := g.1) (ci := 5) (v := .ref a.2.1) (C := RX5) (T := TX5) (N := 11) hx hb hts inX5 hown hK.1 hP 0 rfl rfl 0 (by decide) (hts _ (List.mem_of_getElem? (i := 1) rfl)) (fun _ h9 => h9) rfl dX5_pours_53 ?_
  refine lv_iconst (v := nI 2) hx hb dX5_pours_56 (by decide) ?_
  refine va_iald hx hb hK.1 hP 1 0 rfl rfl (vp_in_nI (by omega) (by omega)) dX5_pours_57 ?_
  refine sp_top (y := (upd (upd (upd (upd (upd v.1 (6 + 4 * (tn t) + 0) (nI (td t))) (6 + 4 * (tn t) + 1) (nI 0)) (6 + 4 * (tn t) + 2) (nI 0)) (6 + 4 * (tn t) + 3) (nI 1)) 1 (nI ((tn t) + 1))) 2) (congrArg (upd (upd (upd (upd (upd v.1 (6 + 4 * (tn t) + 0) (nI (td t))) (6 + 4 * (tn t) + 1) (nI 0)) (6 + 4 * (tn t) + 2) (nI 0)) (6 + 4 * (tn t) + 3) (nI 1)) 1 (nI ((tn t) + 1))) (sp_c8 (k := 2) (by omega))) ?_
  refine sp_top (y := nI (tw t)) (by rw [sp_upd_n (by omega), sp_upd_n (by omega), sp_upd_n (by omega), sp_upd_n (by omega), sp_upd_n (by omega)]; exact hM.w) ?_
  refine sp_vv0 (n := 2) SF hK hA (c_X5_shares l g a ((upd (upd (upd (upd (upd v.1 (6 + 4 * (tn t) + 0) (nI (td t))) (6 + 4 * (tn t) + 1) (nI 0)) (6 + 4 * (tn t) + 2) (nI 0)) (6 + 4 * (tn t) + 3) (nI 1)) 1 (nI ((tn t) + 1))), v.2.1, v.2.2.1, v.2.2.2.1, v.2.2.2.2.1, v.2.2.2.2.2.1, v.2.2.2.2.2.2.1, v.2.2.2.2.2.2.2.1, v.2.2.2.2.2.2.2.2.1, v.2.2.2.2.2.2.2.2.2.1, v.2.2.2.2.2.2.2.2.2.2) (sp_new t) (sp_Rm_new hM) (sp_I_new hI hn) (tn t) (Nat.lt_succ_self _) (nI (tw t))) gX5_pours_X5_shares rfl rfl rfl (by decide +kernel) rfl ⟨Nat.le_of_ble_eq_true rfl, Nat.le_of_ble_eq_true rfl⟩ 5 0 rfl rfl hP hD hS hl.1 rfl (Nat.le_of_ble_eq_true rfl) dX5_pours_58 (fun x1 H locs hw1 hP hD hS => ?_)
  have hP : va_P g.1 vwCl (mdW g a (x1.1, v.2.1, v.2.2.1, v.2.2.2.1, v.2.2.2.2.1, v.2.2.2.2.2.1, v.2.2.2.2.2.2.1, v.2.2.2.2.2.2.2.1, v.2.2.2.2.2.2.2.2.1, v.2.2.2.2.2.2.2.2.2.1, x1.2)) H := hP
  have hD : va_D A (mdW g a (x1.1, v.2.1, v.2.2.1, v.2.2.2.1, v.2.2.2.2.1, v.2.2.2.2.2.1, v.2.2.2.2.2.2.1, v.2.2.2.2.2.2.2.1, v.2.2.2.2.2.2.2.2.1, v.2.2.2.2.2.2.2.2.2.1, x1.2)) := hD
  exact hend _ _ _ _ x1 dX5_pours_61 (hw1) hP hD hS

set_option maxHeartbeats 4000000 in
set_option maxRecDepth 100000 in
theorem c_X5_strikes (l : Launch) (g : sp_G) (a : sp_A9) (v : sp_V) (t : sp_T) (hM : sp_Rm v.1 t) (hI : sp_I t) (i : Nat) (hi : i < tn t) : sp_CV l g yX5_strikes wsX5_strikes ({ frames := 5, cells := 0, slots := 0, locals := 114 }) [.ref a.1, .int (nI i)] (mdW g a v) (fun x : (Nat → Int32) × (Nat → Int32) => sp_Rm x.1 (sp_stk t i)) (fun x => mdW g a (x.1, v.2.1, v.2.2.1, v.2.2.2.1, v.2.2.2.2.1, v.2.2.2.2.2.1, v.2.2.2.2.2.2.1, v.2.2.2.2.2.2.2.1, v.2.2.2.2.2.2.2.2.1, v.2.2.2.2.2.2.2.2.2.1, x.2)) := by
  refine sp_CV.of (cc := cX5_strikes) (maxL := 3) (by decide) rfl (Nat.le_of_ble_eq_true rfl) ?_
  intro p e s m below meth c Q A ls SF hK hP hD hA hl hend
  have hx := SF.1
  have hb := SF.2.1
  have hown : s.vm.findClass RX5 = some m.cls := SF.2.2.2.1
  have hts := SF.2.2.2.2
  have hS : va_S A s.heap s.heap [] := va_S.rf
  have inX5 : ∀ w ∈ wsX50, w ∈ wsX5_strikes := fun w h => List.mem_cons_of_mem _ (List.mem_append_right _ h)
  have hl : lv_has ls 3 [(0, .ref a.1), (1, .int (nI i))] := hl
  have hn8 := hI.n
  refine lv_aload_n hx hb dX5_strikes_0 rfl (lv_at hl 0 rfl) ?_
  refine lv_iload_n hx hb dX5_strikes_1 rfl (lv_at hl 1 rfl) ?_
  refine sp_vi0 (n := 1) SF hK hA (c_X5_force l g a v t hM hI i hi) gX5_strikes_X5_force rfl rfl rfl (by decide +kernel) rfl ⟨Nat.le_of_ble_eq_true rfl, Nat.le_of_ble_eq_true rfl⟩ 5 0 rfl rfl hP hD hS hl.1 rfl (Nat.le_of_ble_eq_true rfl) dX5_strikes_2 (fun r9 u9 H locs w1 hP hD hS => ?_)
  subst w1
  have hP : va_P g.1 vwCl (mdW g a v) H := hP
  have hD : va_D A (mdW g a v) := hD
  refine lv_istore_n (lv' := [(2, .int (sp_frc t i)), (0, .ref a.1), (1, .int (nI i))]) hx hb dX5_strikes_5 rfl hl (by decide) rfl (fun ls hl => ?_)
  refine lv_aload_n hx hb dX5_strikes_6 rfl (lv_at hl 1 rfl) ?_
  refine lv_iload_n hx hb dX5_strikes_7 rfl (lv_at hl 2 rfl) ?_
  refine lv_iconst (v := nI 3) hx hb dX5_strikes_8 (by decide) ?_
  refine lv_iconst (v := nI 0) hx hb dX5_strikes_9 (by decide) ?_
  refine sp_vv0 (n := 3) SF hK hA (c_X5_put l g a v i 3 (by omega) (by omega) (nI 0)) gX5_strikes_X5_put rfl rfl rfl (by decide +kernel) rfl ⟨Nat.le_of_ble_eq_true rfl, Nat.le_of_ble_eq_true rfl⟩ 5 0 rfl rfl hP hD hS hl.1 rfl (Nat.le_of_ble_eq_true rfl) dX5_strikes_10 (fun u9 H locs w2 hP hD hS => ?_)
  have hP : va_P g.1 vwCl (mdW g a ((upd v.1 (6 + 4 * i + 3) (nI 0)), v.2.1, v.2.2.1, v.2.2.2.1, v.2.2.2.2.1, v.2.2.2.2.2.1, v.2.2.2.2.2.2.1, v.2.2.2.2.2.2.2.1, v.2.2.2.2.2.2.2.2.1, v.2.2.2.2.2.2.2.2.2.1, v.2.2.2.2.2.2.2.2.2.2)) H := hP
  have hD : va_D A (mdW g a ((upd v.1 (6 + 4 * i + 3) (nI 0)), v.2.1, v.2.2.1, v.2.2.2.1, v.2.2.2.2.1, v.2.2.2.2.2.1, v.2.2.2.2.2.2.1, v.2.2.2.2.2.2.2.1, v.2.2.2.2.2.2.2.2.1, v.2.2.2.2.2.2.2.2.2.1, v.2.2.2.2.2.2.2.2.2.2)) := hD
  refine lv_aload_n hx hb dX5_strikes_13 rfl (lv_at hl 1 rfl) ?_
  refine lv_iload_n hx hb dX5_strikes_14 rfl (lv_at hl 2 rfl) ?_
  refine lv_iload_n hx hb dX5_strikes_15 rfl (lv_at hl 0 rfl) ?_
  refine sp_vv0 (n := 2) SF hK hA (c_X5_shares l g a ((upd v.1 (6 + 4 * i + 3) (nI 0)), v.2.1, v.2.2.1, v.2.2.2.1, v.2.2.2.2.1, v.2.2.2.2.2.1, v.2.2.2.2.2.2.1, v.2.2.2.2.2.2.2.1, v.2.2.2.2.2.2.2.2.1, v.2.2.2.2.2.2.2.2.2.1, v.2.2.2.2.2.2.2.2.2.2) (sp_off t i) (sp_Rm_off hM hI hi) (sp_I_off hI i) i hi (sp_frc t i)) gX5_strikes_X5_shares rfl rfl rfl (by decide +kernel) rfl ⟨Nat.le_of_ble_eq_true rfl, Nat.le_of_ble_eq_true rfl⟩ 5 0 rfl rfl hP hD hS hl.1 rfl (Nat.le_of_ble_eq_true rfl) dX5_strikes_16 (fun x1 H locs hw1 hP hD hS => ?_)
  have hP : va_P g.1 vwCl (mdW g a (x1.1, v.2.1, v.2.2.1, v.2.2.2.1, v.2.2.2.2.1, v.2.2.2.2.2.1, v.2.2.2.2.2.2.1, v.2.2.2.2.2.2.2.1, v.2.2.2.2.2.2.2.2.1, v.2.2.2.2.2.2.2.2.2.1, x1.2)) H := hP
  have hD : va_D A (mdW g a (x1.1, v.2.1, v.2.2.1, v.2.2.2.1, v.2.2.2.2.1, v.2.2.2.2.2.1, v.2.2.2.2.2.2.1, v.2.2.2.2.2.2.2.1, v.2.2.2.2.2.2.2.2.1, v.2.2.2.2.2.2.2.2.2.1, x1.2)) := hD
  refine lv_iload_n hx hb dX5_strikes_19 rfl (lv_at hl 2 rfl) ?_
  refine lv_if_le (tgt := 32) hx hb dX5_strikes_20 (by decide) (fun c2 => ?_) (fun c2 => ?_)
  · have c2 := (sp_z_le (by omega)).mp c2
    exact hend _ _ _ _ x1 dX5_strikes_32 (by unfold sp_stk; first | (rw [if_pos c2]; exact hw1) | (rw [if_neg c2]; exact hw2)) hP hD hS
  · have c2 := mt (sp_z_le (by omega)).mpr c2
    refine lv_aload_n hx hb dX5_strikes_23 rfl (lv_at hl 1 rfl) ?_
    refine lv_iload_n hx hb dX5_strikes_24 rfl (lv_at hl 2 rfl) ?_
    refine lv_iconst (v := nI 1) hx hb dX5_strikes_25 (by decide) ?_
    refine lv_isub hx hb dX5_strikes_26 ?_
    refine sp_top (y := nI (i - 1)) (sp_sub (by omega)) ?_
    refine lv_iload_n hx hb dX5_strikes_27 rfl (lv_at hl 0 rfl) ?_
    refine lv_ineg hx hb dX5_strikes_28 ?_
    refine sp_vv0 (n := 2) SF hK hA (c_X5_shares l g a (x1.1, v.2.1, v.2.2.1, v.2.2.2.1, v.2.2.2.2.1, v.2.2.2.2.2.1, v.2.2.2.2.2.2.1, v.2.2.2.2.2.2.2.1, v.2.2.2.2.2.2.2.2.1, v.2.2.2.2.2.2.2.2.2.1, x1.2) (sp_stk1 t i) hw1 (sp_I_stk1 hI i) (i - 1) (by rw [show tn (sp_stk1 t i) = tn t from sp_shr_n _ _ _]; omega) (-(sp_frc t i))) gX5_strikes_X5_shares rfl rfl rfl (by decide +kernel) rfl ⟨Nat.le_of_ble_eq_true rfl, Nat.le_of_ble_eq_true rfl⟩ 5 0 rfl rfl hP hD hS hl.1 rfl (Nat.le_of_ble_eq_true rfl) dX5_strikes_29 (fun x2 H locs hw2 hP hD hS => ?_)
    have hP : va_P g.1 vwCl (mdW g a (x2.1, v.2.1, v.2.2.1, v.2.2.2.1, v.2.2.2.2.1, v.2.2.2.2.2.1, v.2.2.2.2.2.2.1, v.2.2.2.2.2.2.2.1, v.2.2.2.2.2.2.2.2.1, v.2.2.2.2.2.2.2.2.2.1, x2.2)) H := hP
    have hD : va_D A (mdW g a (x2.1, v.2.1, v.2.2.1, v.2.2.2.1, v.2.2.2.2.1, v.2.2.2.2.2.1, v.2.2.2.2.2.2.1, v.2.2.2.2.2.2.2.1, v.2.2.2.2.2.2.2.2.1, v.2.2.2.2.2.2.2.2.2.1, x2.2)) := hD
    exact hend _ _ _ _ x2 dX5_strikes_32 (by unfold sp_stk; first | (rw [if_pos c2]; exact hw1) | (rw [if_neg c2]; exact hw2)) hP hD hS

set_option maxHeartbeats 4000000 in
set_option maxRecDepth 100000 in
theorem c_X5_mayStrike (l : Launch) (g : sp_G) (a : sp_A9) (v : sp_V) (t : sp_T) (hM : sp_Rm v.1 t) (hI : sp_I t) (x : Int32) : sp_CB l g yX5_mayStrike wsX5_mayStrike ({ frames := 6, cells := 0, slots := 0, locals := 136 }) [.ref a.1, .int x] (mdW g a v) (fun b (y : (Nat → Int32) × (Nat → Int32) × (Nat → Int32)) => b = sp_msx t x ∧ ∀ j, j < 38 → y.1 j = v.1 j) (fun x => mdW g a (x.1, x.2.1, v.2.2.1, v.2.2.2.1, v.2.2.2.2.1, v.2.2.2.2.2.1, v.2.2.2.2.2.2.1, v.2.2.2.2.2.2.2.1, v.2.2.2.2.2.2.2.2.1, v.2.2.2.2.2.2.2.2.2.1, x.2.2)) := by
  refine sp_CB.of (cc := cX5_mayStrike) (maxL := 3) (by decide) rfl (Nat.le_of_ble_eq_true rfl) ?_
  intro p e s m below meth c Q A ls SF hK hP hD hA hl hend
  have hx := SF.1
  have hb := SF.2.1
  have hown : s.vm.findClass RX5 = some m.cls := SF.2.2.2.1
  have hts := SF.2.2.2.2
  have hS : va_S A s.heap s.heap [] := va_S.rf
  have inX5 : ∀ w ∈ wsX50, w ∈ wsX5_mayStrike := fun w h => List.mem_cons_of_mem _ (List.mem_append_right _ h)
  have hl : lv_has ls 3 [(0, .ref a.1), (1, .int x)] := hl
  have hn8 := hI.n
  refine lv_aload_n hx hb dX5_mayStrike_0 rfl (lv_at hl 0 rfl) ?_
  refine lv_iload_n hx hb dX5_mayStrike_1 rfl (lv_at hl 1 rfl) ?_
  refine sp_vi0 (n := 1) SF hK hA (c_X5_isFloor l g a v t hM hI x) gX5_mayStrike_X5_isFloor rfl rfl rfl (by decide +kernel) rfl ⟨Nat.le_of_ble_eq_true rfl, Nat.le_of_ble_eq_true rfl⟩ 5 0 rfl rfl hP hD hS hl.1 rfl (Nat.le_of_ble_eq_true rfl) dX5_mayStrike_2 (fun r9 u9 H locs hbb hP hD hS => ?_)
  obtain ⟨bb, rfl, hbb⟩ := hbb
  have hP : va_P g.1 vwCl (mdW g a v) H := hP
  have hD : va_D A (mdW g a v) := hD
  refine lv_if_eq (tgt := 16) hx hb dX5_mayStrike_5 (by decide) (fun c1 => ?_) (fun c1 => ?_)
  · have c1 := sp_b0.mp c1
    refine lv_iconst (v := bI false) hx hb dX5_mayStrike_16 (by decide) ?_
    exact hend _ _ _ _ false (v.1, v.2.1, v.2.2.2.2.2.2.2.2.2.2) dX5_mayStrike_17 (by first | exact ⟨(sp_msx_f (hbb.symm.trans c1)).symm, fun _ _ => rfl⟩ | exact ⟨by rw [sp_msx_n hn8 hj]; unfold sp_ms; rw [← hb2, c2]; rfl, fun _ _ => rfl⟩) hP hD hS
  · have c1 := sp_b0n.mp c1
    obtain ⟨j, hj, rfl⟩ := sp_has_t (hbb.symm.trans c1) hn8
    refine lv_aload_n hx hb dX5_mayStrike_8 rfl (lv_at hl 0 rfl) ?_
    refine lv_iload_n hx hb dX5_mayStrike_9 rfl (lv_at hl 1 rfl) ?_
    refine sp_vi0 (n := 1) SF hK hA (c_X5_isPropped l g a v t hM hI j hj) gX5_mayStrike_X5_isPropped rfl rfl rfl (by decide +kernel) rfl ⟨Nat.le_of_ble_eq_true rfl, Nat.le_of_ble_eq_true rfl⟩ 5 0 rfl rfl hP hD hS hl.1 rfl (Nat.le_of_ble_eq_true rfl) dX5_mayStrike_10 (fun r9 u9 H locs hb2 hP hD hS => ?_)
    obtain ⟨b2, rfl, hb2⟩ := hb2
    have hP : va_P g.1 vwCl (mdW g a v) H := hP
    have hD : va_D A (mdW g a v) := hD
    refine lv_if_ne (tgt := 18) hx hb dX5_mayStrike_13 (by decide) (fun c2 => ?_) (fun c2 => ?_)
    · have c2 := sp_b0n.mp c2
      refine lv_aload_n hx hb dX5_mayStrike_18 rfl (lv_at hl 0 rfl) ?_
      refine sp_vv0 (n := 0) SF hK hA (c_X5_lays l g a v) gX5_mayStrike_X5_lays rfl rfl rfl (by decide +kernel) rfl ⟨Nat.le_of_ble_eq_true rfl, Nat.le_of_ble_eq_true rfl⟩ 5 0 rfl rfl hP hD hS hl.1 rfl (Nat.le_of_ble_eq_true rfl) dX5_mayStrike_19 (fun as1 H locs ha1 hP hD hS => ?_)
      have hP : va_P g.1 vwCl (mdW g a (v.1, as1, v.2.2.1, v.2.2.2.1, v.2.2.2.2.1, v.2.2.2.2.2.1, v.2.2.2.2.2.2.1, v.2.2.2.2.2.2.2.1, v.2.2.2.2.2.2.2.2.1, v.2.2.2.2.2.2.2.2.2.1, v.2.2.2.2.2.2.2.2.2.2)) H := hP
      have hD : va_D A (mdW g a (v.1, as1, v.2.2.1, v.2.2.2.1, v.2.2.2.2.1, v.2.2.2.2.2.1, v.2.2.2.2.2.2.1, v.2.2.2.2.2.2.2.1, v.2.2.2.2.2.2.2.2.1, v.2.2.2.2.2.2.2.2.2.1, v.2.2.2.2.2.2.2.2.2.2)) := hD
      refine lv_aload_n hx hb dX5_mayStrike_22 rfl (lv_at hl 0 rfl) ?_
      refine lv_iload_n hx hb dX5_mayStrike_23 rfl (lv_at hl 1 rfl) ?_
      refine sp_vv0 (n := 1) SF hK hA (c_X5_strikes l g a (v.1, as1, v.2.2.1, v.2.2.2.1, v.2.2.2.2.1, v.2.2.2.2.2.1, v.2.2.2.2.2.2.1, v.2.2.2.2.2.2.2.1, v.2.2.2.2.2.2.2.2.1, v.2.2.2.2.2.2.2.2.2.1, v.2.2.2.2.2.2.2.2.2.2) t hM hI j hj) gX5_mayStrike_X5_strikes rfl rfl rfl (by decide +kernel) rfl ⟨Nat.le_of_ble_eq_true rfl, Nat.le_of_ble_eq_true rfl⟩ 5 0 rfl rfl hP hD hS hl.1 rfl (Nat.le_of_ble_eq_true rfl) dX5_mayStrike_24 (fun x1 H locs hs1 hP hD hS => ?_)
      have hP : va_P g.1 vwCl (mdW g a (x1.1, as1, v.2.2.1, v.2.2.2.1, v.2.2.2.2.1, v.2.2.2.2.2.1, v.2.2.2.2.2.2.1, v.2.2.2.2.2.2.2.1, v.2.2.2.2.2.2.2.2.1, v.2.2.2.2.2.2.2.2.2.1, x1.2)) H := hP
      have hD : va_D A (mdW g a (x1.1, as1, v.2.2.1, v.2.2.2.1, v.2.2.2.2.1, v.2.2.2.2.2.1, v.2.2.2.2.2.2.1, v.2.2.2.2.2.2.2.1, v.2.2.2.2.2.2.2.2.1, v.2.2.2.2.2.2.2.2.2.1, x1.2)) := hD
      refine lv_aload_n hx hb dX5_mayStrike_27 rfl (lv_at hl 0 rfl) ?_
      refine sp_vi0 (n := 0) SF hK hA (c_X5_weak l g a (x1.1, as1, v.2.2.1, v.2.2.2.1, v.2.2.2.2.1, v.2.2.2.2.2.1, v.2.2.2.2.2.2.1, v.2.2.2.2.2.2.2.1, v.2.2.2.2.2.2.2.2.1, v.2.2.2.2.2.2.2.2.2.1, x1.2) (sp_stk t j) hs1 (sp_I_stk hI j)) gX5_mayStrike_X5_weak rfl rfl rfl (by decide +kernel) rfl ⟨Nat.le_of_ble_eq_true rfl, Nat.le_of_ble_eq_true rfl⟩ 5 0 rfl rfl hP hD hS hl.1 rfl (Nat.le_of_ble_eq_true rfl) dX5_mayStrike_28 (fun r9 u9 H locs w1 hP hD hS => ?_)
      subst w1
      have hP : va_P g.1 vwCl (mdW g a (x1.1, as1, v.2.2.1, v.2.2.2.1, v.2.2.2.2.1, v.2.2.2.2.2.1, v.2.2.2.2.2.2.1, v.2.2.2.2.2.2.2.1, v.2.2.2.2.2.2.2.2.1, v.2.2.2.2.2.2.2.2.2.1, x1.2)) H := hP
      have hD : va_D A (mdW g a (x1.1, as1, v.2.2.1, v.2.2.2.1, v.2.2.2.2.1, v.2.2.2.2.2.1, v.2.2.2.2.2.2.1, v.2.2.2.2.2.2.2.1, v.2.2.2.2.2.2.2.2.1, v.2.2.2.2.2.2.2.2.2.1, x1.2)) := hD
      refine lv_if_ne (tgt := 38) hx hb dX5_mayStrike_31 (by decide) (fun c3 => ?_) (fun c3 => ?_)
      · refine lv_iconst (v := nI 0) hx hb dX5_mayStrike_38 (by decide) ?_
        refine lv_istore_n (lv' := [(2, .int (nI 0)), (0, .ref a.1), (1, .int (nI j))]) hx hb dX5_mayStrike_39 rfl hl (by decide) rfl (fun ls hl => ?_)
        refine lv_aload_n hx hb dX5_mayStrike_40 rfl (lv_at hl 1 rfl) ?_
        refine sp_vv0 (n := 0) SF hK hA (c_X5_takesBack l g a (x1.1, as1, v.2.2.1, v.2.2.2.1, v.2.2.2.2.1, v.2.2.2.2.2.1, v.2.2.2.2.2.2.1, v.2.2.2.2.2.2.2.1, v.2.2.2.2.2.2.2.2.1, v.2.2.2.2.2.2.2.2.2.1, x1.2)) gX5_mayStrike_X5_takesBack rfl rfl rfl (by decide +kernel) rfl ⟨Nat.le_of_ble_eq_true rfl, Nat.le_of_ble_eq_true rfl⟩ 5 0 rfl rfl hP hD hS hl.1 rfl (Nat.le_of_ble_eq_true rfl) dX5_mayStrike_41 (fun nw1 H locs hb1 hP hD hS => ?_)
        have hP : va_P g.1 vwCl (mdW g a (nw1, as1, v.2.2.1, v.2.2.2.1, v.2.2.2.2.1, v.2.2.2.2.2.1, v.2.2.2.2.2.2.1, v.2.2.2.2.2.2.2.1, v.2.2.2.2.2.2.2.2.1, v.2.2.2.2.2.2.2.2.2.1, x1.2)) H := hP
        have hD : va_D A (mdW g a (nw1, as1, v.2.2.1, v.2.2.2.1, v.2.2.2.2.1, v.2.2.2.2.2.1, v.2.2.2.2.2.2.1, v.2.2.2.2.2.2.2.1, v.2.2.2.2.2.2.2.2.1, v.2.2.2.2.2.2.2.2.2.1, x1.2)) := hD
        refine lv_iload_n hx hb dX5_mayStrike_44 rfl (lv_at hl 0 rfl) ?_
        refine sp_top (y := bI false) (by decide) ?_
        exact hend _ _ _ _ false (nw1, as1, x1.2) dX5_mayStrike_45 (⟨by rw [sp_msx_n hn8 hj]; unfold sp_ms; rw [← hb2, c2]; unfold sp_safe; first | rw [decide_eq_true c3]; rfl | rw [decide_eq_false c3]; rfl, fun j5 hj5 => (hb1 j5 hj5).trans (ha1 j5 hj5)⟩) hP hD hS
      · refine lv_iconst (v := nI 1) hx hb dX5_mayStrike_34 (by decide) ?_
        refine lv_goto (tgt := 39) hx hb dX5_mayStrike_35 (by decide) ?_
        refine lv_istore_n (lv' := [(2, .int (nI 1)), (0, .ref a.1), (1, .int (nI j))]) hx hb dX5_mayStrike_39 rfl hl (by decide) rfl (fun ls hl => ?_)
        refine lv_aload_n hx hb dX5_mayStrike_40 rfl (lv_at hl 1 rfl) ?_
        refine sp_vv0 (n := 0) SF hK hA (c_X5_takesBack l g a (x1.1, as1, v.2.2.1, v.2.2.2.1, v.2.2.2.2.1, v.2.2.2.2.2.1, v.2.2.2.2.2.2.1, v.2.2.2.2.2.2.2.1, v.2.2.2.2.2.2.2.2.1, v.2.2.2.2.2.2.2.2.2.1, x1.2)) gX5_mayStrike_X5_takesBack rfl rfl rfl (by decide +kernel) rfl ⟨Nat.le_of_ble_eq_true rfl, Nat.le_of_ble_eq_true rfl⟩ 5 0 rfl rfl hP hD hS hl.1 rfl (Nat.le_of_ble_eq_true rfl) dX5_mayStrike_41 (fun nw1 H locs hb1 hP hD hS => ?_)
        have hP : va_P g.1 vwCl (mdW g a (nw1, as1, v.2.2.1, v.2.2.2.1, v.2.2.2.2.1, v.2.2.2.2.2.1, v.2.2.2.2.2.2.1, v.2.2.2.2.2.2.2.1, v.2.2.2.2.2.2.2.2.1, v.2.2.2.2.2.2.2.2.2.1, x1.2)) H := hP
        have hD : va_D A (mdW g a (nw1, as1, v.2.2.1, v.2.2.2.1, v.2.2.2.2.1, v.2.2.2.2.2.1, v.2.2.2.2.2.2.1, v.2.2.2.2.2.2.2.1, v.2.2.2.2.2.2.2.2.1, v.2.2.2.2.2.2.2.2.2.1, x1.2)) := hD
        refine lv_iload_n hx hb dX5_mayStrike_44 rfl (lv_at hl 0 rfl) ?_
        refine sp_top (y := bI true) (by decide) ?_
        exact hend _ _ _ _ true (nw1, as1, x1.2) dX5_mayStrike_45 (⟨by rw [sp_msx_n hn8 hj]; unfold sp_ms; rw [← hb2, c2]; unfold sp_safe; first | rw [decide_eq_true c3]; rfl | rw [decide_eq_false c3]; rfl, fun j5 hj5 => (hb1 j5 hj5).trans (ha1 j5 hj5)⟩) hP hD hS
    · have c2 := sp_b0.mp c2
      refine lv_iconst (v := bI false) hx hb dX5_mayStrike_16 (by decide) ?_
      exact hend _ _ _ _ false (v.1, v.2.1, v.2.2.2.2.2.2.2.2.2.2) dX5_mayStrike_17 (by first | exact ⟨(sp_msx_f (hbb.symm.trans c1)).symm, fun _ _ => rfl⟩ | exact ⟨by rw [sp_msx_n hn8 hj]; unfold sp_ms; rw [← hb2, c2]; rfl, fun _ _ => rfl⟩) hP hD hS

set_option maxHeartbeats 4000000 in
set_option maxRecDepth 100000 in
theorem c_X5_mayPour (l : Launch) (g : sp_G) (a : sp_A9) (v : sp_V) (t : sp_T) (hM : sp_Rm v.1 t) (hI : sp_I t) : sp_CB l g yX5_mayPour wsX5_mayPour ({ frames := 6, cells := 0, slots := 0, locals := 135 }) [.ref a.1] (mdW g a v) (fun b (y : (Nat → Int32) × (Nat → Int32) × (Nat → Int32)) => b = sp_mp t ∧ ∀ j, j < 38 → y.1 j = v.1 j) (fun x => mdW g a (x.1, x.2.1, v.2.2.1, v.2.2.2.1, v.2.2.2.2.1, v.2.2.2.2.2.1, v.2.2.2.2.2.2.1, v.2.2.2.2.2.2.2.1, v.2.2.2.2.2.2.2.2.1, v.2.2.2.2.2.2.2.2.2.1, x.2.2)) := by
  refine sp_CB.of (cc := cX5_mayPour) (maxL := 2) (by decide) rfl (Nat.le_of_ble_eq_true rfl) ?_
  intro p e s m below meth c Q A ls SF hK hP hD hA hl hend
  have hx := SF.1
  have hb := SF.2.1
  have hown : s.vm.findClass RX5 = some m.cls := SF.2.2.2.1
  have hts := SF.2.2.2.2
  have hS : va_S A s.heap s.heap [] := va_S.rf
  have inX5 : ∀ w ∈ wsX50, w ∈ wsX5_mayPour := fun w h => List.mem_cons_of_mem _ (List.mem_append_right _ h)
  have hl : lv_has ls 2 [(0, .ref a.1)] := hl
  have hn8 := hI.n
  refine lv_aload_n hx hb dX5_mayPour_0 rfl (lv_at hl 0 rfl) ?_
  refine va_get (D := g.1) (ci := 5) (v := .ref a.2.1) (C := RX5) (T := TX5) (N := 11) hx hb hts inX5 hown hK.1 hP 0 rfl rfl 0 (by decide) (hts _ (List.mem_of_getElem? (i := 1) rfl)) (fun _ h9 => h9) rfl dX5_mayPour_1 ?_
  refine lv_iconst (v := nI 1) hx hb dX5_mayPour_4 (by decide) ?_
  refine va_iald hx hb hK.1 hP 1 0 rfl rfl (vp_in_nI (by omega) (by omega)) dX5_mayPour_5 ?_
  refine sp_top (y := v.1 1) (congrArg v.1 (sp_c8 (k := 1) (by omega))) ?_
  refine sp_top (y := nI (tn t)) (hM.n) ?_
  refine lv_bipush (v := nI 8) hx hb dX5_mayPour_6 (by decide) ?_
  refine lv_icmp_ne (tgt := 13) hx hb dX5_mayPour_8 (by decide) (fun c1 => ?_) (fun c1 => ?_)
  · have c1 := mt (nI_eq (by omega) (by omega)).mpr c1
    have hn : tn t < 8 := by omega
    refine lv_aload_n hx hb dX5_mayPour_13 rfl (lv_at hl 0 rfl) ?_
    refine sp_vv0 (n := 0) SF hK hA (c_X5_lays l g a v) gX5_mayPour_X5_lays rfl rfl rfl (by decide +kernel) rfl ⟨Nat.le_of_ble_eq_true rfl, Nat.le_of_ble_eq_true rfl⟩ 5 0 rfl rfl hP hD hS hl.1 rfl (Nat.le_of_ble_eq_true rfl) dX5_mayPour_14 (fun as1 H locs ha1 hP hD hS => ?_)
    have hP : va_P g.1 vwCl (mdW g a (v.1, as1, v.2.2.1, v.2.2.2.1, v.2.2.2.2.1, v.2.2.2.2.2.1, v.2.2.2.2.2.2.1, v.2.2.2.2.2.2.2.1, v.2.2.2.2.2.2.2.2.1, v.2.2.2.2.2.2.2.2.2.1, v.2.2.2.2.2.2.2.2.2.2)) H := hP
    have hD : va_D A (mdW g a (v.1, as1, v.2.2.1, v.2.2.2.1, v.2.2.2.2.1, v.2.2.2.2.2.1, v.2.2.2.2.2.2.1, v.2.2.2.2.2.2.2.1, v.2.2.2.2.2.2.2.2.1, v.2.2.2.2.2.2.2.2.2.1, v.2.2.2.2.2.2.2.2.2.2)) := hD
    refine lv_aload_n hx hb dX5_mayPour_17 rfl (lv_at hl 0 rfl) ?_
    refine sp_vv0 (n := 0) SF hK hA (c_X5_pours l g a (v.1, as1, v.2.2.1, v.2.2.2.1, v.2.2.2.2.1, v.2.2.2.2.2.1, v.2.2.2.2.2.2.1, v.2.2.2.2.2.2.2.1, v.2.2.2.2.2.2.2.2.1, v.2.2.2.2.2.2.2.2.2.1, v.2.2.2.2.2.2.2.2.2.2) t hM hI hn) gX5_mayPour_X5_pours rfl rfl rfl (by decide +kernel) rfl ⟨Nat.le_of_ble_eq_true rfl, Nat.le_of_ble_eq_true rfl⟩ 5 0 rfl rfl hP hD hS hl.1 rfl (Nat.le_of_ble_eq_true rfl) dX5_mayPour_18 (fun x1 H locs hs1 hP hD hS => ?_)
    have hP : va_P g.1 vwCl (mdW g a (x1.1, as1, v.2.2.1, v.2.2.2.1, v.2.2.2.2.1, v.2.2.2.2.2.1, v.2.2.2.2.2.2.1, v.2.2.2.2.2.2.2.1, v.2.2.2.2.2.2.2.2.1, v.2.2.2.2.2.2.2.2.2.1, x1.2)) H := hP
    have hD : va_D A (mdW g a (x1.1, as1, v.2.2.1, v.2.2.2.1, v.2.2.2.2.1, v.2.2.2.2.2.1, v.2.2.2.2.2.2.1, v.2.2.2.2.2.2.2.1, v.2.2.2.2.2.2.2.2.1, v.2.2.2.2.2.2.2.2.2.1, x1.2)) := hD
    refine lv_aload_n hx hb dX5_mayPour_21 rfl (lv_at hl 0 rfl) ?_
    refine sp_vi0 (n := 0) SF hK hA (c_X5_weak l g a (x1.1, as1, v.2.2.1, v.2.2.2.1, v.2.2.2.2.1, v.2.2.2.2.2.1, v.2.2.2.2.2.2.1, v.2.2.2.2.2.2.2.1, v.2.2.2.2.2.2.2.2.1, v.2.2.2.2.2.2.2.2.2.1, x1.2) (sp_pour t) hs1 (sp_I_pour hI hn)) gX5_mayPour_X5_weak rfl rfl rfl (by decide +kernel) rfl ⟨Nat.le_of_ble_eq_true rfl, Nat.le_of_ble_eq_true rfl⟩ 5 0 rfl rfl hP hD hS hl.1 rfl (Nat.le_of_ble_eq_true rfl) dX5_mayPour_22 (fun r9 u9 H locs w1 hP hD hS => ?_)
    subst w1
    have hP : va_P g.1 vwCl (mdW g a (x1.1, as1, v.2.2.1, v.2.2.2.1, v.2.2.2.2.1, v.2.2.2.2.2.1, v.2.2.2.2.2.2.1, v.2.2.2.2.2.2.2.1, v.2.2.2.2.2.2.2.2.1, v.2.2.2.2.2.2.2.2.2.1, x1.2)) H := hP
    have hD : va_D A (mdW g a (x1.1, as1, v.2.2.1, v.2.2.2.1, v.2.2.2.2.1, v.2.2.2.2.2.1, v.2.2.2.2.2.2.1, v.2.2.2.2.2.2.2.1, v.2.2.2.2.2.2.2.2.1, v.2.2.2.2.2.2.2.2.2.1, x1.2)) := hD
    refine lv_if_ne (tgt := 32) hx hb dX5_mayPour_25 (by decide) (fun c3 => ?_) (fun c3 => ?_)
    · refine lv_iconst (v := nI 0) hx hb dX5_mayPour_32 (by decide) ?_
      refine lv_istore_n (lv' := [(1, .int (nI 0)), (0, .ref a.1)]) hx hb dX5_mayPour_33 rfl hl (by decide) rfl (fun ls hl => ?_)
      refine lv_aload_n hx hb dX5_mayPour_34 rfl (lv_at hl 1 rfl) ?_
      refine sp_vv0 (n := 0) SF hK hA (c_X5_takesBack l g a (x1.1, as1, v.2.2.1, v.2.2.2.1, v.2.2.2.2.1, v.2.2.2.2.2.1, v.2.2.2.2.2.2.1, v.2.2.2.2.2.2.2.1, v.2.2.2.2.2.2.2.2.1, v.2.2.2.2.2.2.2.2.2.1, x1.2)) gX5_mayPour_X5_takesBack rfl rfl rfl (by decide +kernel) rfl ⟨Nat.le_of_ble_eq_true rfl, Nat.le_of_ble_eq_true rfl⟩ 5 0 rfl rfl hP hD hS hl.1 rfl (Nat.le_of_ble_eq_true rfl) dX5_mayPour_35 (fun nw1 H locs hb1 hP hD hS => ?_)
      have hP : va_P g.1 vwCl (mdW g a (nw1, as1, v.2.2.1, v.2.2.2.1, v.2.2.2.2.1, v.2.2.2.2.2.1, v.2.2.2.2.2.2.1, v.2.2.2.2.2.2.2.1, v.2.2.2.2.2.2.2.2.1, v.2.2.2.2.2.2.2.2.2.1, x1.2)) H := hP
      have hD : va_D A (mdW g a (nw1, as1, v.2.2.1, v.2.2.2.1, v.2.2.2.2.1, v.2.2.2.2.2.1, v.2.2.2.2.2.2.1, v.2.2.2.2.2.2.2.1, v.2.2.2.2.2.2.2.2.1, v.2.2.2.2.2.2.2.2.2.1, x1.2)) := hD
      refine lv_iload_n hx hb dX5_mayPour_38 rfl (lv_at hl 0 rfl) ?_
      refine sp_top (y := bI false) (by decide) ?_
      exact hend _ _ _ _ false (nw1, as1, x1.2) dX5_mayPour_39 (⟨by unfold sp_mp; rw [decide_eq_true hn]; unfold sp_safe; first | rw [decide_eq_true c3]; rfl | rw [decide_eq_false c3]; rfl, fun j5 hj5 => (hb1 j5 hj5).trans (ha1 j5 hj5)⟩) hP hD hS
    · refine lv_iconst (v := nI 1) hx hb dX5_mayPour_28 (by decide) ?_
      refine lv_goto (tgt := 33) hx hb dX5_mayPour_29 (by decide) ?_
      refine lv_istore_n (lv' := [(1, .int (nI 1)), (0, .ref a.1)]) hx hb dX5_mayPour_33 rfl hl (by decide) rfl (fun ls hl => ?_)
      refine lv_aload_n hx hb dX5_mayPour_34 rfl (lv_at hl 1 rfl) ?_
      refine sp_vv0 (n := 0) SF hK hA (c_X5_takesBack l g a (x1.1, as1, v.2.2.1, v.2.2.2.1, v.2.2.2.2.1, v.2.2.2.2.2.1, v.2.2.2.2.2.2.1, v.2.2.2.2.2.2.2.1, v.2.2.2.2.2.2.2.2.1, v.2.2.2.2.2.2.2.2.2.1, x1.2)) gX5_mayPour_X5_takesBack rfl rfl rfl (by decide +kernel) rfl ⟨Nat.le_of_ble_eq_true rfl, Nat.le_of_ble_eq_true rfl⟩ 5 0 rfl rfl hP hD hS hl.1 rfl (Nat.le_of_ble_eq_true rfl) dX5_mayPour_35 (fun nw1 H locs hb1 hP hD hS => ?_)
      have hP : va_P g.1 vwCl (mdW g a (nw1, as1, v.2.2.1, v.2.2.2.1, v.2.2.2.2.1, v.2.2.2.2.2.1, v.2.2.2.2.2.2.1, v.2.2.2.2.2.2.2.1, v.2.2.2.2.2.2.2.2.1, v.2.2.2.2.2.2.2.2.2.1, x1.2)) H := hP
      have hD : va_D A (mdW g a (nw1, as1, v.2.2.1, v.2.2.2.1, v.2.2.2.2.1, v.2.2.2.2.2.1, v.2.2.2.2.2.2.1, v.2.2.2.2.2.2.2.1, v.2.2.2.2.2.2.2.2.1, v.2.2.2.2.2.2.2.2.2.1, x1.2)) := hD
      refine lv_iload_n hx hb dX5_mayPour_38 rfl (lv_at hl 0 rfl) ?_
      refine sp_top (y := bI true) (by decide) ?_
      exact hend _ _ _ _ true (nw1, as1, x1.2) dX5_mayPour_39 (⟨by unfold sp_mp; rw [decide_eq_true hn]; unfold sp_safe; first | rw [decide_eq_true c3]; rfl | rw [decide_eq_false c3]; rfl, fun j5 hj5 => (hb1 j5 hj5).trans (ha1 j5 hj5)⟩) hP hD hS
  · have c1 := (nI_eq (by omega) (by omega)).mp c1
    refine lv_iconst (v := bI false) hx hb dX5_mayPour_11 (by decide) ?_
    exact hend _ _ _ _ false (v.1, v.2.1, v.2.2.2.2.2.2.2.2.2.2) dX5_mayPour_12 (⟨by unfold sp_mp; rw [decide_eq_false (by omega)]; rfl, fun _ _ => rfl⟩) hP hD hS

set_option maxHeartbeats 4000000 in
set_option maxRecDepth 100000 in
theorem c_X5_earliest (l : Launch) (g : sp_G) (a : sp_A9) (v : sp_V) (t : sp_T) (hM : sp_Rm v.1 t) (hI : sp_I t) (hd : td t ≤ 199000) (i : Nat) (hi : i < tn t) : sp_CI l g yX5_earliest wsX5_earliest ({ frames := 7, cells := 0, slots := 0, locals := 158 }) [.ref a.1, .int (nI i)] (mdW g a v) (fun z (y : (Nat → Int32) × (Nat → Int32) × (Nat → Int32)) => z = sp_er t i ∧ ∀ j, j < 38 → y.1 j = v.1 j) (fun x => mdW g a (x.1, x.2.1, v.2.2.1, v.2.2.2.1, v.2.2.2.2.1, v.2.2.2.2.2.1, v.2.2.2.2.2.2.1, v.2.2.2.2.2.2.2.1, v.2.2.2.2.2.2.2.2.1, v.2.2.2.2.2.2.2.2.2.1, x.2.2)) := by
  refine sp_CI.of (cc := cX5_earliest) (maxL := 5) (by decide) rfl (Nat.le_of_ble_eq_true rfl) ?_
  intro p e s m below meth c Q A ls SF hK hP hD hA hl hend
  have hx := SF.1
  have hb := SF.2.1
  have hown : s.vm.findClass RX5 = some m.cls := SF.2.2.2.1
  have hts := SF.2.2.2.2
  have hS : va_S A s.heap s.heap [] := va_S.rf
  have inX5 : ∀ w ∈ wsX50, w ∈ wsX5_earliest := fun w h => List.mem_cons_of_mem _ (List.mem_append_right _ h)
  have hl : lv_has ls 5 [(0, .ref a.1), (1, .int (nI i))] := hl
  have hn8 := hI.n
  refine lv_aload_n hx hb dX5_earliest_0 rfl (lv_at hl 0 rfl) ?_
  refine va_get (D := g.1) (ci := 5) (v := .ref a.2.1) (C := RX5) (T := TX5) (N := 11) hx hb hts inX5 hown hK.1 hP 0 rfl rfl 0 (by decide) (hts _ (List.mem_of_getElem? (i := 1) rfl)) (fun _ h9 => h9) rfl dX5_earliest_1 ?_
  refine lv_iconst (v := nI 0) hx hb dX5_earliest_4 (by decide) ?_
  refine va_iald hx hb hK.1 hP 1 0 rfl rfl (vp_in_nI (by omega) (by omega)) dX5_earliest_5 ?_
  refine sp_top (y := v.1 0) (congrArg v.1 (sp_c8 (k := 0) (by omega))) ?_
  refine sp_top (y := nI (td t)) (hM.d) ?_
  refine lv_istore_n (lv' := [(2, .int (nI (td t))), (0, .ref a.1), (1, .int (nI i))]) hx hb dX5_earliest_6 rfl hl (by decide) rfl (fun ls hl => ?_)
  refine lv_iconst (v := (-1)) hx hb dX5_earliest_7 (by decide) ?_
  refine lv_istore_n (lv' := [(3, .int (-1)), (2, .int (nI (td t))), (0, .ref a.1), (1, .int (nI i))]) hx hb dX5_earliest_8 rfl hl (by decide) rfl (fun ls hl => ?_)
  refine lv_iconst (v := nI 0) hx hb dX5_earliest_9 (by decide) ?_
  refine lv_istore (lv' := [(4, .int (nI 0)), (3, .int (-1)), (2, .int (nI (td t))), (0, .ref a.1), (1, .int (nI i))]) hx hb dX5_earliest_10 hl (by decide) rfl (fun ls hl => ?_)
  have hloop12 : ∀ (n12 : Nat) (n : Nat) (z : Int32) (h : Nat → Int32) (as : Nat → Int32) (pt : Nat → Int32) (H : Heap) (locs : List Loc) (ls : Array Slot), (n ≤ 61) → ((z = -1 ∧ erF t i (61 - n) n = sp_er t i) ∨ (¬ z = -1 ∧ z = sp_er t i)) → (∀ j, j < 38 → 1 ≤ j → h j = v.1 j) → 61 - n < n12 → va_P g.1 vwCl (mdW g a (h, as, v.2.2.1, v.2.2.2.1, v.2.2.2.2.1, v.2.2.2.2.2.1, v.2.2.2.2.2.2.1, v.2.2.2.2.2.2.2.1, v.2.2.2.2.2.2.2.2.1, v.2.2.2.2.2.2.2.2.2.1, pt)) H → va_D A (mdW g a (h, as, v.2.2.1, v.2.2.2.1, v.2.2.2.2.1, v.2.2.2.2.2.1, v.2.2.2.2.2.2.1, v.2.2.2.2.2.2.2.1, v.2.2.2.2.2.2.2.2.1, v.2.2.2.2.2.2.2.2.2.1, pt)) → va_S A s.heap H locs → lv_has ls 5 [(0, .ref a.1), (1, .int (nI i)), (2, .int (nI (td t))), (3, .int z), (4, .int (nI n))] → W p l e ({ frames := 7, cells := 0, slots := 0, locals := 158 }) s m ([.ref a.1, .int (nI i)] : List Value).toArray below meth c H locs 0 0 Q (F0 m 12 ls []) := by
    intro n12
    induction n12 with
    | zero =>
      intro n z h as pt H locs ls hn hz hh h9
      exact absurd h9 (Nat.not_lt_zero _)
    | succ n12 ih12 =>
      intro n z h as pt H locs ls hn hz hh hm12 hP hD hS hl
      refine lv_iload hx hb dX5_earliest_12 (lv_at hl 4 rfl) ?_
      refine lv_bipush (v := nI 61) hx hb dX5_earliest_14 (by decide) ?_
      refine lv_icmp_ge (tgt := 55) hx hb dX5_earliest_16 (by decide) (fun c1 => ?_) (fun c1 => ?_)
      · have c1 := (nI_leI (by omega) (by omega)).mp c1
        have hfin : z = sp_er t i := by
          rcases hz with q | q
          · rw [← q.2, erF_e c1]; exact q.1
          · exact q.2
        refine lv_aload_n hx hb dX5_earliest_55 rfl (lv_at hl 0 rfl) ?_
        refine va_get (D := g.1) (ci := 5) (v := .ref a.2.1) (C := RX5) (T := TX5) (N := 11) hx hb hts inX5 hown hK.1 hP 0 rfl rfl 0 (by decide) (hts _ (List.mem_of_getElem? (i := 1) rfl)) (fun _ h9 => h9) rfl dX5_earliest_56 ?_
        refine lv_iconst (v := nI 0) hx hb dX5_earliest_59 (by decide) ?_
        refine lv_iload_n hx hb dX5_earliest_60 rfl (lv_at hl 2 rfl) ?_
        refine va_iast hx hb hK.1 hP hD hS 1 0 rfl rfl (vp_in_nI (by omega) (by omega)) dX5_earliest_61 (fun H locs hP hD hS => ?_)
        rw [sp_c8 (k := 0) (by omega)] at hP hD
        have hP : va_P g.1 vwCl (mdW g a ((upd h 0 (nI (td t))), as, v.2.2.1, v.2.2.2.1, v.2.2.2.2.1, v.2.2.2.2.2.1, v.2.2.2.2.2.2.1, v.2.2.2.2.2.2.2.1, v.2.2.2.2.2.2.2.2.1, v.2.2.2.2.2.2.2.2.2.1, pt)) H := hP
        have hD : va_D A (mdW g a ((upd h 0 (nI (td t))), as, v.2.2.1, v.2.2.2.1, v.2.2.2.2.1, v.2.2.2.2.2.1, v.2.2.2.2.2.2.1, v.2.2.2.2.2.2.2.1, v.2.2.2.2.2.2.2.2.1, v.2.2.2.2.2.2.2.2.2.1, pt)) := hD
        refine lv_iload_n hx hb dX5_earliest_62 rfl (lv_at hl 3 rfl) ?_
        exact hend _ _ _ _ _ ((upd h 0 (nI (td t))), as, pt) dX5_earliest_63 (⟨hfin, sp_ret0 hM hh⟩) hP hD hS
      · have c1 := mt (nI_leI (by omega) (by omega)).mpr c1
        refine lv_iload_n hx hb dX5_earliest_19 rfl (lv_at hl 3 rfl) ?_
        refine lv_iconst (v := (-1)) hx hb dX5_earliest_20 (by decide) ?_
        refine lv_icmp_ne (tgt := 55) hx hb dX5_earliest_21 (by decide) (fun c2 => ?_) (fun c2 => ?_)
        · have hfin : z = sp_er t i := (hz.resolve_left (fun q => c2 q.1)).2
          refine lv_aload_n hx hb dX5_earliest_55 rfl (lv_at hl 0 rfl) ?_
          refine va_get (D := g.1) (ci := 5) (v := .ref a.2.1) (C := RX5) (T := TX5) (N := 11) hx hb hts inX5 hown hK.1 hP 0 rfl rfl 0 (by decide) (hts _ (List.mem_of_getElem? (i := 1) rfl)) (fun _ h9 => h9) rfl dX5_earliest_56 ?_
          refine lv_iconst (v := nI 0) hx hb dX5_earliest_59 (by decide) ?_
          refine lv_iload_n hx hb dX5_earliest_60 rfl (lv_at hl 2 rfl) ?_
          refine va_iast hx hb hK.1 hP hD hS 1 0 rfl rfl (vp_in_nI (by omega) (by omega)) dX5_earliest_61 (fun H locs hP hD hS => ?_)
          rw [sp_c8 (k := 0) (by omega)] at hP hD
          have hP : va_P g.1 vwCl (mdW g a ((upd h 0 (nI (td t))), as, v.2.2.1, v.2.2.2.1, v.2.2.2.2.1, v.2.2.2.2.2.1, v.2.2.2.2.2.2.1, v.2.2.2.2.2.2.2.1, v.2.2.2.2.2.2.2.2.1, v.2.2.2.2.2.2.2.2.2.1, pt)) H := hP
          have hD : va_D A (mdW g a ((upd h 0 (nI (td t))), as, v.2.2.1, v.2.2.2.1, v.2.2.2.2.1, v.2.2.2.2.2.1, v.2.2.2.2.2.2.1, v.2.2.2.2.2.2.2.1, v.2.2.2.2.2.2.2.2.1, v.2.2.2.2.2.2.2.2.2.1, pt)) := hD
          refine lv_iload_n hx hb dX5_earliest_62 rfl (lv_at hl 3 rfl) ?_
          exact hend _ _ _ _ _ ((upd h 0 (nI (td t))), as, pt) dX5_earliest_63 (⟨hfin, sp_ret0 hM hh⟩) hP hD hS
        · refine lv_aload_n hx hb dX5_earliest_24 rfl (lv_at hl 0 rfl) ?_
          refine va_get (D := g.1) (ci := 5) (v := .ref a.2.1) (C := RX5) (T := TX5) (N := 11) hx hb hts inX5 hown hK.1 hP 0 rfl rfl 0 (by decide) (hts _ (List.mem_of_getElem? (i := 1) rfl)) (fun _ h9 => h9) rfl dX5_earliest_25 ?_
          refine lv_iconst (v := nI 0) hx hb dX5_earliest_28 (by decide) ?_
          refine lv_iload_n hx hb dX5_earliest_29 rfl (lv_at hl 2 rfl) ?_
          refine lv_iload hx hb dX5_earliest_30 (lv_at hl 4 rfl) ?_
          refine lv_iadd hx hb dX5_earliest_32 ?_
          refine sp_top (y := nI ((td t) + n)) (nI_add _ _) ?_
          refine va_iast hx hb hK.1 hP hD hS 1 0 rfl rfl (vp_in_nI (by omega) (by omega)) dX5_earliest_33 (fun H locs hP hD hS => ?_)
          rw [sp_c8 (k := 0) (by omega)] at hP hD
          have hP : va_P g.1 vwCl (mdW g a ((upd h 0 (nI ((td t) + n))), as, v.2.2.1, v.2.2.2.1, v.2.2.2.2.1, v.2.2.2.2.2.1, v.2.2.2.2.2.2.1, v.2.2.2.2.2.2.2.1, v.2.2.2.2.2.2.2.2.1, v.2.2.2.2.2.2.2.2.2.1, pt)) H := hP
          have hD : va_D A (mdW g a ((upd h 0 (nI ((td t) + n))), as, v.2.2.1, v.2.2.2.1, v.2.2.2.2.1, v.2.2.2.2.2.1, v.2.2.2.2.2.2.1, v.2.2.2.2.2.2.2.1, v.2.2.2.2.2.2.2.2.1, v.2.2.2.2.2.2.2.2.2.1, pt)) := hD
          refine lv_aload_n hx hb dX5_earliest_34 rfl (lv_at hl 0 rfl) ?_
          refine lv_iload_n hx hb dX5_earliest_35 rfl (lv_at hl 1 rfl) ?_
          refine sp_vi0 (n := 1) SF hK hA (c_X5_mayStrike l g a ((upd h 0 (nI ((td t) + n))), as, v.2.2.1, v.2.2.2.1, v.2.2.2.2.1, v.2.2.2.2.2.1, v.2.2.2.2.2.2.1, v.2.2.2.2.2.2.2.1, v.2.2.2.2.2.2.2.2.1, v.2.2.2.2.2.2.2.2.2.1, pt) (sp_setd t (td t + n)) (sp_Rm_setd hM hn8 (td t + n) hh) (sp_I_setd hI (by omega) (by omega)) (nI i)) gX5_earliest_X5_mayStrike rfl rfl rfl (by decide +kernel) rfl ⟨Nat.le_of_ble_eq_true rfl, Nat.le_of_ble_eq_true rfl⟩ 5 0 rfl rfl hP hD hS hl.1 rfl (Nat.le_of_ble_eq_true rfl) dX5_earliest_36 (fun r9 x1 H locs hw1 hP hD hS => ?_)
          obtain ⟨b1, rfl, hw1⟩ := hw1
          have hP : va_P g.1 vwCl (mdW g a (x1.1, x1.2.1, v.2.2.1, v.2.2.2.1, v.2.2.2.2.1, v.2.2.2.2.2.1, v.2.2.2.2.2.2.1, v.2.2.2.2.2.2.2.1, v.2.2.2.2.2.2.2.2.1, v.2.2.2.2.2.2.2.2.2.1, x1.2.2)) H := hP
          have hD : va_D A (mdW g a (x1.1, x1.2.1, v.2.2.1, v.2.2.2.1, v.2.2.2.2.1, v.2.2.2.2.2.1, v.2.2.2.2.2.2.1, v.2.2.2.2.2.2.2.1, v.2.2.2.2.2.2.2.2.1, v.2.2.2.2.2.2.2.2.2.1, x1.2.2)) := hD
          have hms : b1 = sp_ms (sp_setd t (td t + n)) i := hw1.1.trans (sp_msx_n (t := sp_setd t (td t + n)) hn8 hi)
          refine lv_if_eq (tgt := 47) hx hb dX5_earliest_39 (by decide) (fun c3 => ?_) (fun c3 => ?_)
          · have c3 := sp_b0.mp c3
            refine lv_iconst (v := (-1)) hx hb dX5_earliest_47 (by decide) ?_
            refine lv_istore_n (lv' := [(3, .int (-1)), (0, .ref a.1), (1, .int (nI i)), (2, .int (nI (td t))), (4, .int (nI n))]) hx hb dX5_earliest_48 rfl hl (by decide) rfl (fun ls hl => ?_)
            refine lv_iinc (v := nI (n + 1)) (lv' := [(4, .int (nI (n + 1))), (3, .int (-1)), (0, .ref a.1), (1, .int (nI i)), (2, .int (nI (td t)))]) hx hb dX5_earliest_49 hl (k := 4) rfl (nI_1 n) (by decide) rfl (fun ls hl => ?_)
            refine lv_goto (tgt := 12) hx hb dX5_earliest_52 (by decide) ?_
            exact ih12 (n + 1) (-1) x1.1 x1.2.1 x1.2.2 _ _ _ (by omega) (Or.inl ⟨rfl, by have h7 := hz.resolve_right (fun q => q.1 c2); rw [← h7.2, erF_f (by omega) (hms.symm.trans c3)]⟩) (fun j5 h5 h6 => (hw1.2 j5 h5).trans ((show upd h 0 (nI (td t + n)) j5 = h j5 from sp_upd_n (by omega)).trans (hh j5 h5 h6))) (by omega) hP hD hS (lv_sub hl [2, 3, 4, 1, 0] rfl)
          · have c3 := sp_b0n.mp c3
            refine lv_iload hx hb dX5_earliest_42 (lv_at hl 4 rfl) ?_
            refine lv_goto (tgt := 48) hx hb dX5_earliest_44 (by decide) ?_
            refine lv_istore_n (lv' := [(3, .int (nI n)), (0, .ref a.1), (1, .int (nI i)), (2, .int (nI (td t))), (4, .int (nI n))]) hx hb dX5_earliest_48 rfl hl (by decide) rfl (fun ls hl => ?_)
            refine lv_iinc (v := nI (n + 1)) (lv' := [(4, .int (nI (n + 1))), (3, .int (nI n)), (0, .ref a.1), (1, .int (nI i)), (2, .int (nI (td t)))]) hx hb dX5_earliest_49 hl (k := 4) rfl (nI_1 n) (by decide) rfl (fun ls hl => ?_)
            refine lv_goto (tgt := 12) hx hb dX5_earliest_52 (by decide) ?_
            exact ih12 (n + 1) (nI n) x1.1 x1.2.1 x1.2.2 _ _ _ (by omega) (Or.inr ⟨sp_ner (by omega), by have h7 := hz.resolve_right (fun q => q.1 c2); rw [← h7.2, erF_t (by omega) (hms.symm.trans c3)]⟩) (fun j5 h5 h6 => (hw1.2 j5 h5).trans ((show upd h 0 (nI (td t + n)) j5 = h j5 from sp_upd_n (by omega)).trans (hh j5 h5 h6))) (by omega) hP hD hS (lv_sub hl [2, 3, 4, 1, 0] rfl)
  exact hloop12 (_ + 1) 0 (-1) v.1 v.2.1 v.2.2.2.2.2.2.2.2.2.2 _ _ _ (by omega) (Or.inl ⟨rfl, rfl⟩) (fun _ _ _ => rfl) (Nat.lt_succ_self _) hP hD hS (lv_sub hl [3, 4, 2, 1, 0] rfl)

set_option maxHeartbeats 4000000 in
set_option maxRecDepth 100000 in
theorem c_X5_harm (l : Launch) (g : sp_G) (a : sp_A9) (v : sp_V) (t : sp_T) (hM : sp_Rm v.1 t) (hI : sp_I t) (i : Nat) (hi : i < tn t) : sp_CI l g yX5_harm wsX5_harm ({ frames := 6, cells := 0, slots := 0, locals := 136 }) [.ref a.1, .int (nI i)] (mdW g a v) (fun z (y : (Nat → Int32) × (Nat → Int32) × (Nat → Int32)) => z = sp_hm t i ∧ ∀ j, j < 38 → y.1 j = v.1 j) (fun x => mdW g a (x.1, x.2.1, v.2.2.1, v.2.2.2.1, v.2.2.2.2.1, v.2.2.2.2.2.1, v.2.2.2.2.2.2.1, v.2.2.2.2.2.2.2.1, v.2.2.2.2.2.2.2.2.1, v.2.2.2.2.2.2.2.2.2.1, x.2.2)) := by
  refine sp_CI.of (cc := cX5_harm) (maxL := 5) (by decide) rfl (Nat.le_of_ble_eq_true rfl) ?_
  intro p e s m below meth c Q A ls SF hK hP hD hA hl hend
  have hx := SF.1
  have hb := SF.2.1
  have hown : s.vm.findClass RX5 = some m.cls := SF.2.2.2.1
  have hts := SF.2.2.2.2
  have hS : va_S A s.heap s.heap [] := va_S.rf
  have inX5 : ∀ w ∈ wsX50, w ∈ wsX5_harm := fun w h => List.mem_cons_of_mem _ (List.mem_append_right _ h)
  have hl : lv_has ls 5 [(0, .ref a.1), (1, .int (nI i))] := hl
  have hn8 := hI.n
  refine lv_aload_n hx hb dX5_harm_0 rfl (lv_at hl 0 rfl) ?_
  refine lv_iload_n hx hb dX5_harm_1 rfl (lv_at hl 1 rfl) ?_
  refine sp_vi0 (n := 1) SF hK hA (c_X5_isPropped l g a v t hM hI i hi) gX5_harm_X5_isPropped rfl rfl rfl (by decide +kernel) rfl ⟨Nat.le_of_ble_eq_true rfl, Nat.le_of_ble_eq_true rfl⟩ 5 0 rfl rfl hP hD hS hl.1 rfl (Nat.le_of_ble_eq_true rfl) dX5_harm_2 (fun r9 u9 H locs hb2 hP hD hS => ?_)
  obtain ⟨b2, rfl, hb2⟩ := hb2
  have hP : va_P g.1 vwCl (mdW g a v) H := hP
  have hD : va_D A (mdW g a v) := hD
  refine lv_if_ne (tgt := 10) hx hb dX5_harm_5 (by decide) (fun c2 => ?_) (fun c2 => ?_)
  · have c2 := sp_b0n.mp c2
    refine lv_aload_n hx hb dX5_harm_10 rfl (lv_at hl 0 rfl) ?_
    refine sp_vv0 (n := 0) SF hK hA (c_X5_lays l g a v) gX5_harm_X5_lays rfl rfl rfl (by decide +kernel) rfl ⟨Nat.le_of_ble_eq_true rfl, Nat.le_of_ble_eq_true rfl⟩ 5 0 rfl rfl hP hD hS hl.1 rfl (Nat.le_of_ble_eq_true rfl) dX5_harm_11 (fun as1 H locs ha1 hP hD hS => ?_)
    have hP : va_P g.1 vwCl (mdW g a (v.1, as1, v.2.2.1, v.2.2.2.1, v.2.2.2.2.1, v.2.2.2.2.2.1, v.2.2.2.2.2.2.1, v.2.2.2.2.2.2.2.1, v.2.2.2.2.2.2.2.2.1, v.2.2.2.2.2.2.2.2.2.1, v.2.2.2.2.2.2.2.2.2.2)) H := hP
    have hD : va_D A (mdW g a (v.1, as1, v.2.2.1, v.2.2.2.1, v.2.2.2.2.1, v.2.2.2.2.2.1, v.2.2.2.2.2.2.1, v.2.2.2.2.2.2.2.1, v.2.2.2.2.2.2.2.2.1, v.2.2.2.2.2.2.2.2.2.1, v.2.2.2.2.2.2.2.2.2.2)) := hD
    refine lv_aload_n hx hb dX5_harm_14 rfl (lv_at hl 0 rfl) ?_
    refine lv_iload_n hx hb dX5_harm_15 rfl (lv_at hl 1 rfl) ?_
    refine sp_vv0 (n := 1) SF hK hA (c_X5_strikes l g a (v.1, as1, v.2.2.1, v.2.2.2.1, v.2.2.2.2.1, v.2.2.2.2.2.1, v.2.2.2.2.2.2.1, v.2.2.2.2.2.2.2.1, v.2.2.2.2.2.2.2.2.1, v.2.2.2.2.2.2.2.2.2.1, v.2.2.2.2.2.2.2.2.2.2) t hM hI i hi) gX5_harm_X5_strikes rfl rfl rfl (by decide +kernel) rfl ⟨Nat.le_of_ble_eq_true rfl, Nat.le_of_ble_eq_true rfl⟩ 5 0 rfl rfl hP hD hS hl.1 rfl (Nat.le_of_ble_eq_true rfl) dX5_harm_16 (fun x1 H locs hs1 hP hD hS => ?_)
    have hP : va_P g.1 vwCl (mdW g a (x1.1, as1, v.2.2.1, v.2.2.2.1, v.2.2.2.2.1, v.2.2.2.2.2.1, v.2.2.2.2.2.2.1, v.2.2.2.2.2.2.2.1, v.2.2.2.2.2.2.2.2.1, v.2.2.2.2.2.2.2.2.2.1, x1.2)) H := hP
    have hD : va_D A (mdW g a (x1.1, as1, v.2.2.1, v.2.2.2.1, v.2.2.2.2.1, v.2.2.2.2.2.1, v.2.2.2.2.2.2.1, v.2.2.2.2.2.2.2.1, v.2.2.2.2.2.2.2.2.1, v.2.2.2.2.2.2.2.2.2.1, x1.2)) := hD
    refine lv_aload_n hx hb dX5_harm_19 rfl (lv_at hl 0 rfl) ?_
    refine lv_iconst (v := nI 0) hx hb dX5_harm_20 (by decide) ?_
    refine lv_iconst (v := nI 2) hx hb dX5_harm_21 (by decide) ?_
    refine sp_vi0 (n := 2) SF hK hA (c_X5_of l g a (x1.1, as1, v.2.2.1, v.2.2.2.1, v.2.2.2.2.1, v.2.2.2.2.2.1, v.2.2.2.2.2.2.1, v.2.2.2.2.2.2.2.1, v.2.2.2.2.2.2.2.2.1, v.2.2.2.2.2.2.2.2.2.1, x1.2) 0 2 (by omega) (by omega)) gX5_harm_X5_of rfl rfl rfl (by decide +kernel) rfl ⟨Nat.le_of_ble_eq_true rfl, Nat.le_of_ble_eq_true rfl⟩ 5 0 rfl rfl hP hD hS hl.1 rfl (Nat.le_of_ble_eq_true rfl) dX5_harm_22 (fun r9 u9 H locs w1 hP hD hS => ?_)
    subst w1
    refine sp_top (y := tlo (sp_stk t i) 0) (hs1.lo (k := 0) (by rw [sp_stk_n]; omega)) ?_
    have hP : va_P g.1 vwCl (mdW g a (x1.1, as1, v.2.2.1, v.2.2.2.1, v.2.2.2.2.1, v.2.2.2.2.2.1, v.2.2.2.2.2.2.1, v.2.2.2.2.2.2.2.1, v.2.2.2.2.2.2.2.2.1, v.2.2.2.2.2.2.2.2.2.1, x1.2)) H := hP
    have hD : va_D A (mdW g a (x1.1, as1, v.2.2.1, v.2.2.2.1, v.2.2.2.2.1, v.2.2.2.2.2.1, v.2.2.2.2.2.2.1, v.2.2.2.2.2.2.2.1, v.2.2.2.2.2.2.2.2.1, v.2.2.2.2.2.2.2.2.2.1, x1.2)) := hD
    refine lv_aload_n hx hb dX5_harm_25 rfl (lv_at hl 0 rfl) ?_
    refine lv_iconst (v := nI 0) hx hb dX5_harm_26 (by decide) ?_
    refine sp_vi0 (n := 1) SF hK hA (c_X5_strength l g a (x1.1, as1, v.2.2.1, v.2.2.2.1, v.2.2.2.2.1, v.2.2.2.2.2.1, v.2.2.2.2.2.2.1, v.2.2.2.2.2.2.2.1, v.2.2.2.2.2.2.2.2.1, v.2.2.2.2.2.2.2.2.2.1, x1.2) (sp_stk t i) hs1 (sp_I_stk hI i) 0 (by rw [sp_stk_n]; omega)) gX5_harm_X5_strength rfl rfl rfl (by decide +kernel) rfl ⟨Nat.le_of_ble_eq_true rfl, Nat.le_of_ble_eq_true rfl⟩ 5 0 rfl rfl hP hD hS hl.1 rfl (Nat.le_of_ble_eq_true rfl) dX5_harm_27 (fun r9 u9 H locs w2 hP hD hS => ?_)
    subst w2
    have hP : va_P g.1 vwCl (mdW g a (x1.1, as1, v.2.2.1, v.2.2.2.1, v.2.2.2.2.1, v.2.2.2.2.2.1, v.2.2.2.2.2.2.1, v.2.2.2.2.2.2.2.1, v.2.2.2.2.2.2.2.2.1, v.2.2.2.2.2.2.2.2.2.1, x1.2)) H := hP
    have hD : va_D A (mdW g a (x1.1, as1, v.2.2.1, v.2.2.2.1, v.2.2.2.2.1, v.2.2.2.2.2.1, v.2.2.2.2.2.2.1, v.2.2.2.2.2.2.2.1, v.2.2.2.2.2.2.2.2.1, v.2.2.2.2.2.2.2.2.2.1, x1.2)) := hD
    refine lv_isub hx hb dX5_harm_30 ?_
    refine lv_istore_n (lv' := [(2, .int ((tlo (sp_stk t i) 0) - (nI (sp_str (sp_stk t i) 0)))), (0, .ref a.1), (1, .int (nI i))]) hx hb dX5_harm_31 rfl hl (by decide) rfl (fun ls hl => ?_)
    refine lv_iconst (v := nI 1) hx hb dX5_harm_32 (by decide) ?_
    refine lv_istore_n (lv' := [(3, .int (nI 1)), (2, .int ((tlo (sp_stk t i) 0) - (nI (sp_str (sp_stk t i) 0)))), (0, .ref a.1), (1, .int (nI i))]) hx hb dX5_harm_33 rfl hl (by decide) rfl (fun ls hl => ?_)
    have hloop34 : ∀ (n34 : Nat) (k : Nat) (z : Int32) (H : Heap) (locs : List Loc) (ls : Array Slot), (1 ≤ k) → (k ≤ tn t) → (lp (sp_exs (sp_stk t i)) (tn t - k) k z = sp_exc (sp_stk t i)) → tn t - k < n34 → va_P g.1 vwCl (mdW g a (x1.1, as1, v.2.2.1, v.2.2.2.1, v.2.2.2.2.1, v.2.2.2.2.2.1, v.2.2.2.2.2.2.1, v.2.2.2.2.2.2.2.1, v.2.2.2.2.2.2.2.2.1, v.2.2.2.2.2.2.2.2.2.1, x1.2)) H → va_D A (mdW g a (x1.1, as1, v.2.2.1, v.2.2.2.1, v.2.2.2.2.1, v.2.2.2.2.2.1, v.2.2.2.2.2.2.1, v.2.2.2.2.2.2.2.1, v.2.2.2.2.2.2.2.2.1, v.2.2.2.2.2.2.2.2.2.1, x1.2)) → va_S A s.heap H locs → lv_has ls 5 [(0, .ref a.1), (1, .int (nI i)), (2, .int z), (3, .int (nI k))] → W p l e ({ frames := 6, cells := 0, slots := 0, locals := 136 }) s m ([.ref a.1, .int (nI i)] : List Value).toArray below meth c H locs 0 0 Q (F0 m 34 ls []) := by
      intro n34
      induction n34 with
      | zero =>
        intro k z H locs ls hk1 hk2 hh h9
        exact absurd h9 (Nat.not_lt_zero _)
      | succ n34 ih34 =>
        intro k z H locs ls hk1 hk2 hh hm34 hP hD hS hl
        refine lv_iload_n hx hb dX5_harm_34 rfl (lv_at hl 3 rfl) ?_
        refine lv_aload_n hx hb dX5_harm_35 rfl (lv_at hl 0 rfl) ?_
        refine va_get (D := g.1) (ci := 5) (v := .ref a.2.1) (C := RX5) (T := TX5) (N := 11) hx hb hts inX5 hown hK.1 hP 0 rfl rfl 0 (by decide) (hts _ (List.mem_of_getElem? (i := 1) rfl)) (fun _ h9 => h9) rfl dX5_harm_36 ?_
        refine lv_iconst (v := nI 1) hx hb dX5_harm_39 (by decide) ?_
        refine va_iald hx hb hK.1 hP 1 0 rfl rfl (vp_in_nI (by omega) (by omega)) dX5_harm_40 ?_
        refine sp_top (y := x1.1 1) (congrArg x1.1 (sp_c8 (k := 1) (by omega))) ?_
        refine sp_top (y := nI (tn t)) (by rw [← sp_stk_n t i]; exact hs1.n) ?_
        refine lv_icmp_ge (tgt := 77) hx hb dX5_harm_41 (by decide) (fun c1 => ?_) (fun c1 => ?_)
        · have c1 := (nI_leI (by omega) (by omega)).mp c1
          refine lv_aload_n hx hb dX5_harm_77 rfl (lv_at hl 0 rfl) ?_
          refine sp_vv0 (n := 0) SF hK hA (c_X5_takesBack l g a (x1.1, as1, v.2.2.1, v.2.2.2.1, v.2.2.2.2.1, v.2.2.2.2.2.1, v.2.2.2.2.2.2.1, v.2.2.2.2.2.2.2.1, v.2.2.2.2.2.2.2.2.1, v.2.2.2.2.2.2.2.2.2.1, x1.2)) gX5_harm_X5_takesBack rfl rfl rfl (by decide +kernel) rfl ⟨Nat.le_of_ble_eq_true rfl, Nat.le_of_ble_eq_true rfl⟩ 5 0 rfl rfl hP hD hS hl.1 rfl (Nat.le_of_ble_eq_true rfl) dX5_harm_78 (fun nw1 H locs hb1 hP hD hS => ?_)
          have hP : va_P g.1 vwCl (mdW g a (nw1, as1, v.2.2.1, v.2.2.2.1, v.2.2.2.2.1, v.2.2.2.2.2.1, v.2.2.2.2.2.2.1, v.2.2.2.2.2.2.2.1, v.2.2.2.2.2.2.2.2.1, v.2.2.2.2.2.2.2.2.2.1, x1.2)) H := hP
          have hD : va_D A (mdW g a (nw1, as1, v.2.2.1, v.2.2.2.1, v.2.2.2.2.1, v.2.2.2.2.2.1, v.2.2.2.2.2.2.1, v.2.2.2.2.2.2.2.1, v.2.2.2.2.2.2.2.2.1, v.2.2.2.2.2.2.2.2.2.1, x1.2)) := hD
          refine lv_iload_n hx hb dX5_harm_81 rfl (lv_at hl 2 rfl) ?_
          refine lv_sipush (v := nI 1000) hx hb dX5_harm_82 (by decide) ?_
          refine lv_iadd hx hb dX5_harm_85 ?_
          exact hend _ _ _ _ _ (nw1, as1, x1.2) dX5_harm_86 (⟨by unfold sp_hm; rw [← hb2, c2, if_pos rfl, ← hh, lp_end _ (by omega)], fun j5 hj5 => (hb1 j5 hj5).trans (ha1 j5 hj5)⟩) hP hD hS
        · have c1 := mt (nI_leI (by omega) (by omega)).mpr c1
          refine lv_aload_n hx hb dX5_harm_44 rfl (lv_at hl 0 rfl) ?_
          refine lv_iload_n hx hb dX5_harm_45 rfl (lv_at hl 3 rfl) ?_
          refine lv_iconst (v := nI 2) hx hb dX5_harm_46 (by decide) ?_
          refine sp_vi0 (n := 2) SF hK hA (c_X5_of l g a (x1.1, as1, v.2.2.1, v.2.2.2.1, v.2.2.2.2.1, v.2.2.2.2.2.1, v.2.2.2.2.2.2.1, v.2.2.2.2.2.2.2.1, v.2.2.2.2.2.2.2.2.1, v.2.2.2.2.2.2.2.2.2.1, x1.2) k 2 (by omega) (by omega)) gX5_harm_X5_of rfl rfl rfl (by decide +kernel) rfl ⟨Nat.le_of_ble_eq_true rfl, Nat.le_of_ble_eq_true rfl⟩ 5 0 rfl rfl hP hD hS hl.1 rfl (Nat.le_of_ble_eq_true rfl) dX5_harm_47 (fun r9 u9 H locs w3 hP hD hS => ?_)
          subst w3
          refine sp_top (y := tlo (sp_stk t i) k) (hs1.lo (k := k) (by rw [sp_stk_n]; omega)) ?_
          have hP : va_P g.1 vwCl (mdW g a (x1.1, as1, v.2.2.1, v.2.2.2.1, v.2.2.2.2.1, v.2.2.2.2.2.1, v.2.2.2.2.2.2.1, v.2.2.2.2.2.2.2.1, v.2.2.2.2.2.2.2.2.1, v.2.2.2.2.2.2.2.2.2.1, x1.2)) H := hP
          have hD : va_D A (mdW g a (x1.1, as1, v.2.2.1, v.2.2.2.1, v.2.2.2.2.1, v.2.2.2.2.2.1, v.2.2.2.2.2.2.1, v.2.2.2.2.2.2.2.1, v.2.2.2.2.2.2.2.2.1, v.2.2.2.2.2.2.2.2.2.1, x1.2)) := hD
          refine lv_aload_n hx hb dX5_harm_50 rfl (lv_at hl 0 rfl) ?_
          refine lv_iload_n hx hb dX5_harm_51 rfl (lv_at hl 3 rfl) ?_
          refine sp_vi0 (n := 1) SF hK hA (c_X5_strength l g a (x1.1, as1, v.2.2.1, v.2.2.2.1, v.2.2.2.2.1, v.2.2.2.2.2.1, v.2.2.2.2.2.2.1, v.2.2.2.2.2.2.2.1, v.2.2.2.2.2.2.2.2.1, v.2.2.2.2.2.2.2.2.2.1, x1.2) (sp_stk t i) hs1 (sp_I_stk hI i) k (by rw [sp_stk_n]; omega)) gX5_harm_X5_strength rfl rfl rfl (by decide +kernel) rfl ⟨Nat.le_of_ble_eq_true rfl, Nat.le_of_ble_eq_true rfl⟩ 5 0 rfl rfl hP hD hS hl.1 rfl (Nat.le_of_ble_eq_true rfl) dX5_harm_52 (fun r9 u9 H locs w4 hP hD hS => ?_)
          subst w4
          have hP : va_P g.1 vwCl (mdW g a (x1.1, as1, v.2.2.1, v.2.2.2.1, v.2.2.2.2.1, v.2.2.2.2.2.1, v.2.2.2.2.2.2.1, v.2.2.2.2.2.2.2.1, v.2.2.2.2.2.2.2.2.1, v.2.2.2.2.2.2.2.2.2.1, x1.2)) H := hP
          have hD : va_D A (mdW g a (x1.1, as1, v.2.2.1, v.2.2.2.1, v.2.2.2.2.1, v.2.2.2.2.2.1, v.2.2.2.2.2.2.1, v.2.2.2.2.2.2.2.1, v.2.2.2.2.2.2.2.2.1, v.2.2.2.2.2.2.2.2.2.1, x1.2)) := hD
          refine lv_isub hx hb dX5_harm_55 ?_
          refine lv_istore (lv' := [(4, .int ((tlo (sp_stk t i) k) - (nI (sp_str (sp_stk t i) k)))), (0, .ref a.1), (1, .int (nI i)), (2, .int z), (3, .int (nI k))]) hx hb dX5_harm_56 hl (by decide) rfl (fun ls hl => ?_)
          refine lv_iload hx hb dX5_harm_58 (lv_at hl 0 rfl) ?_
          refine lv_iload_n hx hb dX5_harm_60 rfl (lv_at hl 3 rfl) ?_
          refine lv_icmp_le (tgt := 69) hx hb dX5_harm_61 (by decide) (fun c3 => ?_) (fun c3 => ?_)
          · refine lv_iload_n hx hb dX5_harm_69 rfl (lv_at hl 3 rfl) ?_
            refine lv_istore_n (lv' := [(2, .int z), (4, .int ((tlo (sp_stk t i) k) - (nI (sp_str (sp_stk t i) k)))), (0, .ref a.1), (1, .int (nI i)), (3, .int (nI k))]) hx hb dX5_harm_70 rfl hl (by decide) rfl (fun ls hl => ?_)
            refine lv_iinc (v := nI (k + 1)) (lv' := [(3, .int (nI (k + 1))), (2, .int z), (4, .int ((tlo (sp_stk t i) k) - (nI (sp_str (sp_stk t i) k)))), (0, .ref a.1), (1, .int (nI i))]) hx hb dX5_harm_71 hl (k := 4) rfl (nI_1 k) (by decide) rfl (fun ls hl => ?_)
            refine lv_goto (tgt := 34) hx hb dX5_harm_74 (by decide) ?_
            exact ih34 (k + 1) z _ _ _ (by omega) (by omega) (by rw [← hh, lp_step (sp_exs (sp_stk t i)) (show k < tn t by omega)]; first | rw [sp_exs_le c3] | rw [sp_exs_gt c3]) (by omega) hP hD hS (lv_sub hl [3, 4, 1, 0] rfl)
          · refine lv_iload hx hb dX5_harm_64 (lv_at hl 0 rfl) ?_
            refine lv_goto (tgt := 70) hx hb dX5_harm_66 (by decide) ?_
            refine lv_istore_n (lv' := [(2, .int ((tlo (sp_stk t i) k) - (nI (sp_str (sp_stk t i) k)))), (4, .int ((tlo (sp_stk t i) k) - (nI (sp_str (sp_stk t i) k)))), (0, .ref a.1), (1, .int (nI i)), (3, .int (nI k))]) hx hb dX5_harm_70 rfl hl (by decide) rfl (fun ls hl => ?_)
            refine lv_iinc (v := nI (k + 1)) (lv' := [(3, .int (nI (k + 1))), (2, .int ((tlo (sp_stk t i) k) - (nI (sp_str (sp_stk t i) k)))), (4, .int ((tlo (sp_stk t i) k) - (nI (sp_str (sp_stk t i) k)))), (0, .ref a.1), (1, .int (nI i))]) hx hb dX5_harm_71 hl (k := 4) rfl (nI_1 k) (by decide) rfl (fun ls hl => ?_)
            refine lv_goto (tgt := 34) hx hb dX5_harm_74 (by decide) ?_
            exact ih34 (k + 1) ((tlo (sp_stk t i) k) - (nI (sp_str (sp_stk t i) k))) _ _ _ (by omega) (by omega) (by rw [← hh, lp_step (sp_exs (sp_stk t i)) (show k < tn t by omega)]; first | rw [sp_exs_le c3] | rw [sp_exs_gt c3]) (by omega) hP hD hS (lv_sub hl [3, 4, 1, 0] rfl)
    exact hloop34 (_ + 1) 1 (tlo (sp_stk t i) 0 - nI (sp_str (sp_stk t i) 0)) _ _ _ (Nat.le_refl _) (by omega) (by unfold sp_exc; rw [sp_stk_n]) (Nat.lt_succ_self _) hP hD hS (lv_sub hl [2, 3, 1, 0] rfl)
  · have c2 := sp_b0.mp c2
    refine lv_iconst (v := (-1)) hx hb dX5_harm_8 (by decide) ?_
    exact hend _ _ _ _ _ (v.1, v.2.1, v.2.2.2.2.2.2.2.2.2.2) dX5_harm_9 (⟨by unfold sp_hm; rw [← hb2, c2]; rfl, fun _ _ => rfl⟩) hP hD hS

set_option maxHeartbeats 4000000 in
set_option maxRecDepth 100000 in
theorem c_X5_propped (l : Launch) (g : sp_G) (a : sp_A9) (v : sp_V) (t : sp_T) (hM : sp_Rm v.1 t) (hI : sp_I t) : sp_CI l g yX5_propped wsX5_propped ({ frames := 2, cells := 0, slots := 0, locals := 43 }) [.ref a.1] (mdW g a v) (fun z (_ : Unit) => z = nI (tpr t)) (fun _ => mdW g a v) := by
  refine sp_CI.of (cc := cX5_propped) (maxL := 3) (by decide) rfl (Nat.le_of_ble_eq_true rfl) ?_
  intro p e s m below meth c Q A ls SF hK hP hD hA hl hend
  have hx := SF.1
  have hb := SF.2.1
  have hown : s.vm.findClass RX5 = some m.cls := SF.2.2.2.1
  have hts := SF.2.2.2.2
  have hS : va_S A s.heap s.heap [] := va_S.rf
  have inX5 : ∀ w ∈ wsX50, w ∈ wsX5_propped := fun w h => List.mem_cons_of_mem _ (List.mem_append_right _ h)
  have hl : lv_has ls 3 [(0, .ref a.1)] := hl
  have hn8 := hI.n
  refine lv_iconst (v := nI 0) hx hb dX5_propped_0 (by decide) ?_
  refine sp_top (y := nI (tpr t % 2 ^ 0)) (by rw [Nat.pow_zero, Nat.mod_one]) ?_
  refine lv_istore_n (lv' := [(1, .int (nI (tpr t % 2 ^ 0))), (0, .ref a.1)]) hx hb dX5_propped_1 rfl hl (by decide) rfl (fun ls hl => ?_)
  refine lv_iconst (v := nI 0) hx hb dX5_propped_2 (by decide) ?_
  refine lv_istore_n (lv' := [(2, .int (nI 0)), (1, .int (nI (tpr t % 2 ^ 0))), (0, .ref a.1)]) hx hb dX5_propped_3 rfl hl (by decide) rfl (fun ls hl => ?_)
  have hloop4 : ∀ (n4 : Nat) (k : Nat) (H : Heap) (locs : List Loc) (ls : Array Slot), (k ≤ tn t) → tn t - k < n4 → va_P g.1 vwCl (mdW g a v) H → va_D A (mdW g a v) → va_S A s.heap H locs → lv_has ls 3 [(0, .ref a.1), (1, .int (nI (tpr t % 2 ^ k))), (2, .int (nI k))] → W p l e ({ frames := 2, cells := 0, slots := 0, locals := 43 }) s m ([.ref a.1] : List Value).toArray below meth c H locs 0 0 Q (F0 m 4 ls []) := by
    intro n4
    induction n4 with
    | zero =>
      intro k H locs ls hk h9
      exact absurd h9 (Nat.not_lt_zero _)
    | succ n4 ih4 =>
      intro k H locs ls hk hm4 hP hD hS hl
      refine lv_iload_n hx hb dX5_propped_4 rfl (lv_at hl 2 rfl) ?_
      refine lv_aload_n hx hb dX5_propped_5 rfl (lv_at hl 0 rfl) ?_
      refine va_get (D := g.1) (ci := 5) (v := .ref a.2.1) (C := RX5) (T := TX5) (N := 11) hx hb hts inX5 hown hK.1 hP 0 rfl rfl 0 (by decide) (hts _ (List.mem_of_getElem? (i := 1) rfl)) (fun _ h9 => h9) rfl dX5_propped_6 ?_
      refine lv_iconst (v := nI 1) hx hb dX5_propped_9 (by decide) ?_
      refine va_iald hx hb hK.1 hP 1 0 rfl rfl (vp_in_nI (by omega) (by omega)) dX5_propped_10 ?_
      refine sp_top (y := v.1 1) (congrArg v.1 (sp_c8 (k := 1) (by omega))) ?_
      refine sp_top (y := nI (tn t)) (hM.n) ?_
      refine lv_icmp_ge (tgt := 38) hx hb dX5_propped_11 (by decide) (fun c1 => ?_) (fun c1 => ?_)
      · have c1 := (nI_leI (by omega) (by omega)).mp c1
        refine lv_iload_n hx hb dX5_propped_38 rfl (lv_at hl 1 rfl) ?_
        exact hend _ _ _ _ _ () dX5_propped_39 (by rw [show k = tn t by omega, Nat.mod_eq_of_lt hI.pr]) hP hD hS
      · have c1 := mt (nI_leI (by omega) (by omega)).mpr c1
        refine lv_iload_n hx hb dX5_propped_14 rfl (lv_at hl 1 rfl) ?_
        refine lv_aload_n hx hb dX5_propped_15 rfl (lv_at hl 0 rfl) ?_
        refine lv_iload_n hx hb dX5_propped_16 rfl (lv_at hl 2 rfl) ?_
        refine sp_vi0 (n := 1) SF hK hA (c_X5_isPropped l g a v t hM hI k (by omega)) gX5_propped_X5_isPropped rfl rfl rfl (by decide +kernel) rfl ⟨Nat.le_of_ble_eq_true rfl, Nat.le_of_ble_eq_true rfl⟩ 5 0 rfl rfl hP hD hS hl.1 rfl (Nat.le_of_ble_eq_true rfl) dX5_propped_17 (fun r9 u9 H locs hbb hP hD hS => ?_)
        obtain ⟨bb, rfl, hbb⟩ := hbb
        have hP : va_P g.1 vwCl (mdW g a v) H := hP
        have hD : va_D A (mdW g a v) := hD
        refine lv_if_eq (tgt := 29) hx hb dX5_propped_20 (by decide) (fun c2 => ?_) (fun c2 => ?_)
        · have c2 := sp_b0.mp c2
          refine lv_iconst (v := nI 0) hx hb dX5_propped_29 (by decide) ?_
          refine lv_ior hx hb dX5_propped_30 ?_
          refine sp_top (y := nI (tpr t % 2 ^ (k + 1))) (by first | (rw [sp_or0]; exact sp_msk_f hI.pr8 (by omega) (hbb.symm.trans c2)) | exact sp_msk_t hI.pr8 (by omega) (hbb.symm.trans c2)) ?_
          refine lv_istore_n (lv' := [(1, .int (nI (tpr t % 2 ^ (k + 1)))), (0, .ref a.1), (2, .int (nI k))]) hx hb dX5_propped_31 rfl hl (by decide) rfl (fun ls hl => ?_)
          refine lv_iinc (v := nI (k + 1)) (lv' := [(2, .int (nI (k + 1))), (1, .int (nI (tpr t % 2 ^ (k + 1)))), (0, .ref a.1)]) hx hb dX5_propped_32 hl (k := 2) rfl (nI_1 k) (by decide) rfl (fun ls hl => ?_)
          refine lv_goto (tgt := 4) hx hb dX5_propped_35 (by decide) ?_
          exact ih4 (k + 1) _ _ _ (by omega) (by omega) hP hD hS (lv_sub hl [2, 1, 0] rfl)
        · have c2 := sp_b0n.mp c2
          refine lv_iconst (v := nI 1) hx hb dX5_propped_23 (by decide) ?_
          refine lv_iload_n hx hb dX5_propped_24 rfl (lv_at hl 2 rfl) ?_
          refine lv_ishl hx hb dX5_propped_25 ?_
          refine lv_goto (tgt := 30) hx hb dX5_propped_26 (by decide) ?_
          refine lv_ior hx hb dX5_propped_30 ?_
          refine sp_top (y := nI (tpr t % 2 ^ (k + 1))) (by first | (rw [sp_or0]; exact sp_msk_f hI.pr8 (by omega) (hbb.symm.trans c2)) | exact sp_msk_t hI.pr8 (by omega) (hbb.symm.trans c2)) ?_
          refine lv_istore_n (lv' := [(1, .int (nI (tpr t % 2 ^ (k + 1)))), (0, .ref a.1), (2, .int (nI k))]) hx hb dX5_propped_31 rfl hl (by decide) rfl (fun ls hl => ?_)
          refine lv_iinc (v := nI (k + 1)) (lv' := [(2, .int (nI (k + 1))), (1, .int (nI (tpr t % 2 ^ (k + 1)))), (0, .ref a.1)]) hx hb dX5_propped_32 hl (k := 2) rfl (nI_1 k) (by decide) rfl (fun ls hl => ?_)
          refine lv_goto (tgt := 4) hx hb dX5_propped_35 (by decide) ?_
          exact ih4 (k + 1) _ _ _ (by omega) (by omega) hP hD hS (lv_sub hl [2, 1, 0] rfl)
  exact hloop4 (_ + 1) 0 _ _ _ (Nat.zero_le _) (Nat.lt_succ_self _) hP hD hS (lv_sub hl [2, 1, 0] rfl)

set_option maxHeartbeats 4000000 in
set_option maxRecDepth 100000 in
theorem c_X5_may (l : Launch) (g : sp_G) (a : sp_A9) (v : sp_V) (t : sp_T) (hM : sp_Rm v.1 t) (hI : sp_I t) : sp_CI l g yX5_may wsX5_may ({ frames := 7, cells := 0, slots := 0, locals := 158 }) [.ref a.1] (mdW g a v) (fun z (y : (Nat → Int32) × (Nat → Int32) × (Nat → Int32)) => z = sp_mset t ∧ ∀ j, j < 38 → y.1 j = v.1 j) (fun x => mdW g a (x.1, x.2.1, v.2.2.1, v.2.2.2.1, v.2.2.2.2.1, v.2.2.2.2.2.1, v.2.2.2.2.2.2.1, v.2.2.2.2.2.2.2.1, v.2.2.2.2.2.2.2.2.1, v.2.2.2.2.2.2.2.2.2.1, x.2.2)) := by
  refine sp_CI.of (cc := cX5_may) (maxL := 3) (by decide) rfl (Nat.le_of_ble_eq_true rfl) ?_
  intro p e s m below meth c Q A ls SF hK hP hD hA hl hend
  have hx := SF.1
  have hb := SF.2.1
  have hown : s.vm.findClass RX5 = some m.cls := SF.2.2.2.1
  have hts := SF.2.2.2.2
  have hS : va_S A s.heap s.heap [] := va_S.rf
  have inX5 : ∀ w ∈ wsX50, w ∈ wsX5_may := fun w h => List.mem_cons_of_mem _ (List.mem_append_right _ h)
  have hl : lv_has ls 3 [(0, .ref a.1)] := hl
  have hn8 := hI.n
  refine lv_iconst (v := nI 0) hx hb dX5_may_0 (by decide) ?_
  refine lv_istore_n (lv' := [(1, .int (nI 0)), (0, .ref a.1)]) hx hb dX5_may_1 rfl hl (by decide) rfl (fun ls hl => ?_)
  refine lv_iconst (v := nI 0) hx hb dX5_may_2 (by decide) ?_
  refine lv_istore_n (lv' := [(2, .int (nI 0)), (1, .int (nI 0)), (0, .ref a.1)]) hx hb dX5_may_3 rfl hl (by decide) rfl (fun ls hl => ?_)
  have hloop4 : ∀ (n4 : Nat) (k : Nat) (z : Int32) (h : Nat → Int32) (as : Nat → Int32) (pt : Nat → Int32) (H : Heap) (locs : List Loc) (ls : Array Slot), (k ≤ tn t) → (lp (sp_mys t) (tn t - k) k z = sp_mset t) → (∀ j, j < 38 → h j = v.1 j) → tn t - k < n4 → va_P g.1 vwCl (mdW g a (h, as, v.2.2.1, v.2.2.2.1, v.2.2.2.2.1, v.2.2.2.2.2.1, v.2.2.2.2.2.2.1, v.2.2.2.2.2.2.2.1, v.2.2.2.2.2.2.2.2.1, v.2.2.2.2.2.2.2.2.2.1, pt)) H → va_D A (mdW g a (h, as, v.2.2.1, v.2.2.2.1, v.2.2.2.2.1, v.2.2.2.2.2.1, v.2.2.2.2.2.2.1, v.2.2.2.2.2.2.2.1, v.2.2.2.2.2.2.2.2.1, v.2.2.2.2.2.2.2.2.2.1, pt)) → va_S A s.heap H locs → lv_has ls 3 [(0, .ref a.1), (1, .int z), (2, .int (nI k))] → W p l e ({ frames := 7, cells := 0, slots := 0, locals := 158 }) s m ([.ref a.1] : List Value).toArray below meth c H locs 0 0 Q (F0 m 4 ls []) := by
    intro n4
    induction n4 with
    | zero =>
      intro k z h as pt H locs ls hk hh he h9
      exact absurd h9 (Nat.not_lt_zero _)
    | succ n4 ih4 =>
      intro k z h as pt H locs ls hk hh he hm4 hP hD hS hl
      have hM2 := sp_Rm_ext hM hn8 he
      refine lv_iload_n hx hb dX5_may_4 rfl (lv_at hl 2 rfl) ?_
      refine lv_aload_n hx hb dX5_may_5 rfl (lv_at hl 0 rfl) ?_
      refine va_get (D := g.1) (ci := 5) (v := .ref a.2.1) (C := RX5) (T := TX5) (N := 11) hx hb hts inX5 hown hK.1 hP 0 rfl rfl 0 (by decide) (hts _ (List.mem_of_getElem? (i := 1) rfl)) (fun _ h9 => h9) rfl dX5_may_6 ?_
      refine lv_iconst (v := nI 1) hx hb dX5_may_9 (by decide) ?_
      refine va_iald hx hb hK.1 hP 1 0 rfl rfl (vp_in_nI (by omega) (by omega)) dX5_may_10 ?_
      refine sp_top (y := h 1) (congrArg h (sp_c8 (k := 1) (by omega))) ?_
      refine sp_top (y := nI (tn t)) (hM2.n) ?_
      refine lv_icmp_ge (tgt := 38) hx hb dX5_may_11 (by decide) (fun c1 => ?_) (fun c1 => ?_)
      · have c1 := (nI_leI (by omega) (by omega)).mp c1
        refine lv_iload_n hx hb dX5_may_38 rfl (lv_at hl 1 rfl) ?_
        exact hend _ _ _ _ _ (h, as, pt) dX5_may_39 (⟨by rw [← hh, lp_end _ (by omega)], he⟩) hP hD hS
      · have c1 := mt (nI_leI (by omega) (by omega)).mpr c1
        refine lv_iload_n hx hb dX5_may_14 rfl (lv_at hl 1 rfl) ?_
        refine lv_aload_n hx hb dX5_may_15 rfl (lv_at hl 0 rfl) ?_
        refine lv_iload_n hx hb dX5_may_16 rfl (lv_at hl 2 rfl) ?_
        refine sp_vi0 (n := 1) SF hK hA (c_X5_mayStrike l g a (h, as, v.2.2.1, v.2.2.2.1, v.2.2.2.2.1, v.2.2.2.2.2.1, v.2.2.2.2.2.2.1, v.2.2.2.2.2.2.2.1, v.2.2.2.2.2.2.2.2.1, v.2.2.2.2.2.2.2.2.2.1, pt) t hM2 hI (nI k)) gX5_may_X5_mayStrike rfl rfl rfl (by decide +kernel) rfl ⟨Nat.le_of_ble_eq_true rfl, Nat.le_of_ble_eq_true rfl⟩ 5 0 rfl rfl hP hD hS hl.1 rfl (Nat.le_of_ble_eq_true rfl) dX5_may_17 (fun r9 x1 H locs hw1 hP hD hS => ?_)
        obtain ⟨b1, rfl, hw1⟩ := hw1
        have hP : va_P g.1 vwCl (mdW g a (x1.1, x1.2.1, v.2.2.1, v.2.2.2.1, v.2.2.2.2.1, v.2.2.2.2.2.1, v.2.2.2.2.2.2.1, v.2.2.2.2.2.2.2.1, v.2.2.2.2.2.2.2.2.1, v.2.2.2.2.2.2.2.2.2.1, x1.2.2)) H := hP
        have hD : va_D A (mdW g a (x1.1, x1.2.1, v.2.2.1, v.2.2.2.1, v.2.2.2.2.1, v.2.2.2.2.2.1, v.2.2.2.2.2.2.1, v.2.2.2.2.2.2.2.1, v.2.2.2.2.2.2.2.2.1, v.2.2.2.2.2.2.2.2.2.1, x1.2.2)) := hD
        have hms : b1 = sp_ms t k := hw1.1.trans (sp_msx_n hn8 (by omega))
        refine lv_if_eq (tgt := 29) hx hb dX5_may_20 (by decide) (fun c2 => ?_) (fun c2 => ?_)
        · have c2 := sp_b0.mp c2
          refine lv_iconst (v := nI 0) hx hb dX5_may_29 (by decide) ?_
          refine lv_ior hx hb dX5_may_30 ?_
          refine sp_top (y := z) (sp_or0 z) ?_
          refine lv_istore_n (lv' := [(1, .int z), (0, .ref a.1), (2, .int (nI k))]) hx hb dX5_may_31 rfl hl (by decide) rfl (fun ls hl => ?_)
          refine lv_iinc (v := nI (k + 1)) (lv' := [(2, .int (nI (k + 1))), (1, .int z), (0, .ref a.1)]) hx hb dX5_may_32 hl (k := 2) rfl (nI_1 k) (by decide) rfl (fun ls hl => ?_)
          refine lv_goto (tgt := 4) hx hb dX5_may_35 (by decide) ?_
          exact ih4 (k + 1) z x1.1 x1.2.1 x1.2.2 _ _ _ (by omega) (by rw [← hh, lp_step (sp_mys t) (show k < tn t by omega)]; first | rw [sp_mys_t (hms.symm.trans c2)] | rw [sp_mys_f (hms.symm.trans c2)]) (fun j5 h5 => (hw1.2 j5 h5).trans (he j5 h5)) (by omega) hP hD hS (lv_sub hl [2, 1, 0] rfl)
        · have c2 := sp_b0n.mp c2
          refine lv_iconst (v := nI 1) hx hb dX5_may_23 (by decide) ?_
          refine lv_iload_n hx hb dX5_may_24 rfl (lv_at hl 2 rfl) ?_
          refine lv_ishl hx hb dX5_may_25 ?_
          refine lv_goto (tgt := 30) hx hb dX5_may_26 (by decide) ?_
          refine lv_ior hx hb dX5_may_30 ?_
          refine lv_istore_n (lv' := [(1, .int (z ||| ((nI 1) <<< ((nI k) &&& 31)))), (0, .ref a.1), (2, .int (nI k))]) hx hb dX5_may_31 rfl hl (by decide) rfl (fun ls hl => ?_)
          refine lv_iinc (v := nI (k + 1)) (lv' := [(2, .int (nI (k + 1))), (1, .int (z ||| ((nI 1) <<< ((nI k) &&& 31)))), (0, .ref a.1)]) hx hb dX5_may_32 hl (k := 2) rfl (nI_1 k) (by decide) rfl (fun ls hl => ?_)
          refine lv_goto (tgt := 4) hx hb dX5_may_35 (by decide) ?_
          exact ih4 (k + 1) (z ||| ((nI 1) <<< ((nI k) &&& 31))) x1.1 x1.2.1 x1.2.2 _ _ _ (by omega) (by rw [← hh, lp_step (sp_mys t) (show k < tn t by omega)]; first | rw [sp_mys_t (hms.symm.trans c2)] | rw [sp_mys_f (hms.symm.trans c2)]) (fun j5 h5 => (hw1.2 j5 h5).trans (he j5 h5)) (by omega) hP hD hS (lv_sub hl [2, 1, 0] rfl)
  exact hloop4 (_ + 1) 0 (nI 0) v.1 v.2.1 v.2.2.2.2.2.2.2.2.2.2 _ _ _ (Nat.zero_le _) (rfl) (fun _ _ => rfl) (Nat.lt_succ_self _) hP hD hS (lv_sub hl [2, 1, 0] rfl)

