set_option maxHeartbeats 4000000 in
set_option maxRecDepth 100000 in
theorem c_X3_addFloor (l : Launch) (g : sp_G) (a : sp_A) (u : sp_U) (t : sp_T) (hR : sp_R u t) (hI : sp_I t) (hn : tn t < 8) : sp_CV l g yX3_addFloor wsX3_addFloor ({ frames := 3, cells := 0, slots := 0, locals := 76 }) [.ref a.1] (twW g a u) (fun v : sp_U => sp_R v (sp_pour t)) (fun v => twW g a v) := by
  refine sp_CV.of (cc := cX3_addFloor) (maxL := 2) (by decide) rfl (Nat.le_of_ble_eq_true rfl) ?_
  intro p e s m below meth c Q A ls SF hK hP hD hA hl hend
  have hx := SF.1
  have hb := SF.2.1
  have hown : s.vm.findClass RX3 = some m.cls := SF.2.2.2.1
  have hts := SF.2.2.2.2
  have hS : va_S A s.heap s.heap [] := va_S.rf
  have inX3 : ∀ w ∈ wsX30, w ∈ wsX3_addFloor := fun w h => List.mem_cons_of_mem _ (List.mem_append_right _ h)
  have hl : lv_has ls 2 [(0, .ref a.1)] := hl
  have hn8 := hI.n
  refine lv_aload_n hx hb dX3_addFloor_0 rfl (lv_at hl 0 rfl) ?_
  refine va_get (D := g.1) (ci := 3) (v := .int u.2.2.2.2.2.2.1) (C := RX3) (T := TX3) (N := 8) hx hb hts inX3 hown hK.1 hP 0 rfl rfl 6 (by decide) (hts _ (List.mem_of_getElem? (i := 1) rfl)) (fun _ h9 => h9) rfl dX3_addFloor_1 ?_
  refine sp_top (y := nI (tn t)) (hR.cnt) ?_
  refine lv_bipush (v := nI 8) hx hb dX3_addFloor_4 (by decide) ?_
  refine lv_icmp_lt (tgt := 10) hx hb dX3_addFloor_6 (by decide) (fun c1 => ?_) (fun c1 => ?_)
  · have c1 := (nI_ltI (by omega) (by omega)).mp c1
    refine lv_aload_n hx hb dX3_addFloor_10 rfl (lv_at hl 0 rfl) ?_
    refine va_get (D := g.1) (ci := 3) (v := .int u.2.2.2.2.2.2.1) (C := RX3) (T := TX3) (N := 8) hx hb hts inX3 hown hK.1 hP 0 rfl rfl 6 (by decide) (hts _ (List.mem_of_getElem? (i := 1) rfl)) (fun _ h9 => h9) rfl dX3_addFloor_11 ?_
    refine sp_top (y := nI (tn t)) (hR.cnt) ?_
    refine lv_istore_n (lv' := [(1, .int (nI (tn t))), (0, .ref a.1)]) hx hb dX3_addFloor_14 rfl hl (by decide) rfl (fun ls hl => ?_)
    refine lv_aload_n hx hb dX3_addFloor_15 rfl (lv_at hl 1 rfl) ?_
    refine va_get (D := g.1) (ci := 3) (v := .ref a.2.2.1) (C := RX3) (T := TX3) (N := 8) hx hb hts inX3 hown hK.1 hP 0 rfl rfl 1 (by decide) (hts _ (List.mem_of_getElem? (i := 2) rfl)) (fun _ h9 => h9) rfl dX3_addFloor_16 ?_
    refine lv_iload_n hx hb dX3_addFloor_19 rfl (lv_at hl 0 rfl) ?_
    refine lv_aload_n hx hb dX3_addFloor_20 rfl (lv_at hl 1 rfl) ?_
    refine va_get (D := g.1) (ci := 3) (v := .int u.2.2.2.2.2.1) (C := RX3) (T := TX3) (N := 8) hx hb hts inX3 hown hK.1 hP 0 rfl rfl 5 (by decide) (hts _ (List.mem_of_getElem? (i := 3) rfl)) (fun _ h9 => h9) rfl dX3_addFloor_21 ?_
    refine sp_top (y := nI (td t)) (hR.day) ?_
    refine va_iast hx hb hK.1 hP hD hS 2 0 rfl rfl (vp_in_nI (by omega) (by omega)) dX3_addFloor_24 (fun H locs hP hD hS => ?_)
    rw [sp_c8 (k := (tn t)) (by omega)] at hP hD
    have hP : va_P g.1 vwCl (twW g a (u.1, (upd u.2.1 (tn t) (nI (td t))), u.2.2.1, u.2.2.2.1, u.2.2.2.2.1, u.2.2.2.2.2.1, u.2.2.2.2.2.2.1, u.2.2.2.2.2.2.2)) H := hP
    have hD : va_D A (twW g a (u.1, (upd u.2.1 (tn t) (nI (td t))), u.2.2.1, u.2.2.2.1, u.2.2.2.2.1, u.2.2.2.2.2.1, u.2.2.2.2.2.2.1, u.2.2.2.2.2.2.2)) := hD
    refine lv_aload_n hx hb dX3_addFloor_25 rfl (lv_at hl 1 rfl) ?_
    refine va_get (D := g.1) (ci := 3) (v := .ref a.2.2.2.1) (C := RX3) (T := TX3) (N := 8) hx hb hts inX3 hown hK.1 hP 0 rfl rfl 2 (by decide) (hts _ (List.mem_of_getElem? (i := 4) rfl)) (fun _ h9 => h9) rfl dX3_addFloor_26 ?_
    refine lv_iload_n hx hb dX3_addFloor_29 rfl (lv_at hl 0 rfl) ?_
    refine lv_iconst (v := nI 0) hx hb dX3_addFloor_30 (by decide) ?_
    refine va_iast hx hb hK.1 hP hD hS 3 0 rfl rfl (vp_in_nI (by omega) (by omega)) dX3_addFloor_31 (fun H locs hP hD hS => ?_)
    rw [sp_c8 (k := (tn t)) (by omega)] at hP hD
    have hP : va_P g.1 vwCl (twW g a (u.1, (upd u.2.1 (tn t) (nI (td t))), (upd u.2.2.1 (tn t) (nI 0)), u.2.2.2.1, u.2.2.2.2.1, u.2.2.2.2.2.1, u.2.2.2.2.2.2.1, u.2.2.2.2.2.2.2)) H := hP
    have hD : va_D A (twW g a (u.1, (upd u.2.1 (tn t) (nI (td t))), (upd u.2.2.1 (tn t) (nI 0)), u.2.2.2.1, u.2.2.2.2.1, u.2.2.2.2.2.1, u.2.2.2.2.2.2.1, u.2.2.2.2.2.2.2)) := hD
    refine lv_aload_n hx hb dX3_addFloor_32 rfl (lv_at hl 1 rfl) ?_
    refine va_get (D := g.1) (ci := 3) (v := .ref a.2.2.2.2.1) (C := RX3) (T := TX3) (N := 8) hx hb hts inX3 hown hK.1 hP 0 rfl rfl 3 (by decide) (hts _ (List.mem_of_getElem? (i := 5) rfl)) (fun _ h9 => h9) rfl dX3_addFloor_33 ?_
    refine lv_iload_n hx hb dX3_addFloor_36 rfl (lv_at hl 0 rfl) ?_
    refine lv_iconst (v := nI 0) hx hb dX3_addFloor_37 (by decide) ?_
    refine va_iast hx hb hK.1 hP hD hS 4 0 rfl rfl (vp_in_nI (by omega) (by omega)) dX3_addFloor_38 (fun H locs hP hD hS => ?_)
    rw [sp_c8 (k := (tn t)) (by omega)] at hP hD
    have hP : va_P g.1 vwCl (twW g a (u.1, (upd u.2.1 (tn t) (nI (td t))), (upd u.2.2.1 (tn t) (nI 0)), (upd u.2.2.2.1 (tn t) (nI 0)), u.2.2.2.2.1, u.2.2.2.2.2.1, u.2.2.2.2.2.2.1, u.2.2.2.2.2.2.2)) H := hP
    have hD : va_D A (twW g a (u.1, (upd u.2.1 (tn t) (nI (td t))), (upd u.2.2.1 (tn t) (nI 0)), (upd u.2.2.2.1 (tn t) (nI 0)), u.2.2.2.2.1, u.2.2.2.2.2.1, u.2.2.2.2.2.2.1, u.2.2.2.2.2.2.2)) := hD
    refine lv_aload_n hx hb dX3_addFloor_39 rfl (lv_at hl 1 rfl) ?_
    refine lv_dup hx hb dX3_addFloor_40 rfl ?_
    refine va_get (D := g.1) (ci := 3) (v := .int u.2.2.2.2.2.2.1) (C := RX3) (T := TX3) (N := 8) hx hb hts inX3 hown hK.1 hP 0 rfl rfl 6 (by decide) (hts _ (List.mem_of_getElem? (i := 1) rfl)) (fun _ h9 => h9) rfl dX3_addFloor_41 ?_
    refine sp_top (y := nI (tn t)) (hR.cnt) ?_
    refine lv_iconst (v := nI 1) hx hb dX3_addFloor_44 (by decide) ?_
    refine lv_iadd hx hb dX3_addFloor_45 ?_
    refine sp_top (y := nI ((tn t) + 1)) (nI_add _ _) ?_
    refine va_put (D := g.1) (ci := 3) (v := .int (nI ((tn t) + 1))) (ty := .int) (C := RX3) (T := TX3) (N := 8) hx hb hts inX3 tyX3 tyX3_ok nmX3 hown hK.1 hP hD hS 0 rfl rfl 6 (by decide) (hts _ (List.mem_of_getElem? (i := 1) rfl)) (fun _ h9 => h9) rfl (by decide +kernel) rfl rfl (Nat.le_of_ble_eq_true rfl) dX3_addFloor_46 (fun H locs hP hD hS => ?_)
    have hP : va_P g.1 vwCl (twW g a (u.1, (upd u.2.1 (tn t) (nI (td t))), (upd u.2.2.1 (tn t) (nI 0)), (upd u.2.2.2.1 (tn t) (nI 0)), u.2.2.2.2.1, u.2.2.2.2.2.1, (nI ((tn t) + 1)), u.2.2.2.2.2.2.2)) H := hP
    have hD : va_D A (twW g a (u.1, (upd u.2.1 (tn t) (nI (td t))), (upd u.2.2.1 (tn t) (nI 0)), (upd u.2.2.2.1 (tn t) (nI 0)), u.2.2.2.2.1, u.2.2.2.2.2.1, (nI ((tn t) + 1)), u.2.2.2.2.2.2.2)) := hD
    refine lv_aload_n hx hb dX3_addFloor_49 rfl (lv_at hl 1 rfl) ?_
    refine lv_iload_n hx hb dX3_addFloor_50 rfl (lv_at hl 0 rfl) ?_
    refine sp_vv0 (n := 1) SF hK hA (c_X3_putProps l g a (u.1, (upd u.2.1 (tn t) (nI (td t))), (upd u.2.2.1 (tn t) (nI 0)), (upd u.2.2.2.1 (tn t) (nI 0)), u.2.2.2.2.1, u.2.2.2.2.2.1, (nI ((tn t) + 1)), u.2.2.2.2.2.2.2) (tpr t) hI.pr8 hR.prp (tn t) hn) gX3_addFloor_X3_putProps rfl rfl rfl (by decide +kernel) rfl ⟨Nat.le_of_ble_eq_true rfl, Nat.le_of_ble_eq_true rfl⟩ 3 0 rfl rfl hP hD hS hl.1 rfl (Nat.le_of_ble_eq_true rfl) dX3_addFloor_51 (fun u9 H locs w1 hP hD hS => ?_)
    have hP : va_P g.1 vwCl (twW g a (u.1, (upd u.2.1 (tn t) (nI (td t))), (upd u.2.2.1 (tn t) (nI 0)), (upd u.2.2.2.1 (tn t) (nI 0)), u.2.2.2.2.1, u.2.2.2.2.2.1, (nI ((tn t) + 1)), nI (tpr t ||| 2 ^ tn t))) H := hP
    have hD : va_D A (twW g a (u.1, (upd u.2.1 (tn t) (nI (td t))), (upd u.2.2.1 (tn t) (nI 0)), (upd u.2.2.2.1 (tn t) (nI 0)), u.2.2.2.2.1, u.2.2.2.2.2.1, (nI ((tn t) + 1)), nI (tpr t ||| 2 ^ tn t))) := hD
    refine lv_aload_n hx hb dX3_addFloor_54 rfl (lv_at hl 1 rfl) ?_
    refine lv_iload_n hx hb dX3_addFloor_55 rfl (lv_at hl 0 rfl) ?_
    refine lv_aload_n hx hb dX3_addFloor_56 rfl (lv_at hl 1 rfl) ?_
    refine va_get (D := g.1) (ci := 3) (v := .ref a.2.1) (C := RX3) (T := TX3) (N := 8) hx hb hts inX3 hown hK.1 hP 0 rfl rfl 0 (by decide) (hts _ (List.mem_of_getElem? (i := 6) rfl)) (fun _ h9 => h9) rfl dX3_addFloor_57 ?_
    refine lv_iconst (v := nI 0) hx hb dX3_addFloor_60 (by decide) ?_
    refine va_iald hx hb hK.1 hP 1 0 rfl rfl (vp_in_nI (by omega) (by omega)) dX3_addFloor_61 ?_
    refine sp_top (y := u.1 0) (congrArg u.1 (sp_c8 (k := 0) (by omega))) ?_
    refine sp_top (y := nI (tw t)) (hR.b0) ?_
    refine sp_vv0 (n := 2) SF hK hA (c_X3_shareAmong l g a (u.1, (upd u.2.1 (tn t) (nI (td t))), (upd u.2.2.1 (tn t) (nI 0)), (upd u.2.2.2.1 (tn t) (nI 0)), u.2.2.2.2.1, u.2.2.2.2.2.1, (nI ((tn t) + 1)), nI (tpr t ||| 2 ^ tn t)) (sp_new t) (sp_R_new hR hI) (sp_I_new hI hn) (tn t) (Nat.lt_succ_self _) (nI (tw t))) gX3_addFloor_X3_shareAmong rfl rfl rfl (by decide +kernel) rfl ⟨Nat.le_of_ble_eq_true rfl, Nat.le_of_ble_eq_true rfl⟩ 3 0 rfl rfl hP hD hS hl.1 rfl (Nat.le_of_ble_eq_true rfl) dX3_addFloor_62 (fun u9 H locs hw hP hD hS => ?_)
    have hP : va_P g.1 vwCl (twW g a u9) H := hP
    have hD : va_D A (twW g a u9) := hD
    exact hend _ _ _ _ u9 dX3_addFloor_65 (hw) hP hD hS
  · have c1 := mt (nI_ltI (by omega) (by omega)).mpr c1
    exact absurd hn c1

set_option maxHeartbeats 4000000 in
set_option maxRecDepth 100000 in
theorem c_X3_takeProps (l : Launch) (g : sp_G) (a : sp_A) (u : sp_U) (t : sp_T) (hR : sp_R u t) (hI : sp_I t) (i : Nat) (hi : i < tn t) : sp_CV l g yX3_takeProps wsX3_takeProps ({ frames := 3, cells := 0, slots := 0, locals := 76 }) [.ref a.1, .int (nI i)] (twW g a u) (fun v : sp_U => sp_R v (sp_stk t i)) (fun v => twW g a v) := by
  refine sp_CV.of (cc := cX3_takeProps) (maxL := 3) (by decide) rfl (Nat.le_of_ble_eq_true rfl) ?_
  intro p e s m below meth c Q A ls SF hK hP hD hA hl hend
  have hx := SF.1
  have hb := SF.2.1
  have hown : s.vm.findClass RX3 = some m.cls := SF.2.2.2.1
  have hts := SF.2.2.2.2
  have hS : va_S A s.heap s.heap [] := va_S.rf
  have inX3 : ∀ w ∈ wsX30, w ∈ wsX3_takeProps := fun w h => List.mem_cons_of_mem _ (List.mem_append_right _ h)
  have hl : lv_has ls 3 [(0, .ref a.1), (1, .int (nI i))] := hl
  have hn8 := hI.n
  refine lv_aload_n hx hb dX3_takeProps_0 rfl (lv_at hl 0 rfl) ?_
  refine lv_iload_n hx hb dX3_takeProps_1 rfl (lv_at hl 1 rfl) ?_
  refine sp_vi0 (n := 1) SF hK hA (c_X3_has l g a u t hR hI (nI i)) gX3_takeProps_X3_has rfl rfl rfl (by decide +kernel) rfl ⟨Nat.le_of_ble_eq_true rfl, Nat.le_of_ble_eq_true rfl⟩ 3 0 rfl rfl hP hD hS hl.1 rfl (Nat.le_of_ble_eq_true rfl) dX3_takeProps_2 (fun r9 u9 H locs hbb hP hD hS => ?_)
  obtain ⟨bb, rfl, hbb⟩ := hbb
  have hP : va_P g.1 vwCl (twW g a u) H := hP
  have hD : va_D A (twW g a u) := hD
  refine lv_if_ne (tgt := 9) hx hb dX3_takeProps_5 (by decide) (fun c1 => ?_) (fun c1 => ?_)
  · have c1 := sp_b0n.mp c1
    refine lv_aload_n hx hb dX3_takeProps_9 rfl (lv_at hl 0 rfl) ?_
    refine lv_iload_n hx hb dX3_takeProps_10 rfl (lv_at hl 1 rfl) ?_
    refine sp_vi0 (n := 1) SF hK hA (c_X3_forceUnder l g a u t hR hI i hi) gX3_takeProps_X3_forceUnder rfl rfl rfl (by decide +kernel) rfl ⟨Nat.le_of_ble_eq_true rfl, Nat.le_of_ble_eq_true rfl⟩ 3 0 rfl rfl hP hD hS hl.1 rfl (Nat.le_of_ble_eq_true rfl) dX3_takeProps_11 (fun r9 u9 H locs w1 hP hD hS => ?_)
    subst w1
    have hP : va_P g.1 vwCl (twW g a u) H := hP
    have hD : va_D A (twW g a u) := hD
    refine lv_istore_n (lv' := [(2, .int (sp_frc t i)), (0, .ref a.1), (1, .int (nI i))]) hx hb dX3_takeProps_14 rfl hl (by decide) rfl (fun ls hl => ?_)
    refine lv_aload_n hx hb dX3_takeProps_15 rfl (lv_at hl 1 rfl) ?_
    refine lv_dup hx hb dX3_takeProps_16 rfl ?_
    refine va_get (D := g.1) (ci := 3) (v := .int u.2.2.2.2.2.2.2) (C := RX3) (T := TX3) (N := 8) hx hb hts inX3 hown hK.1 hP 0 rfl rfl 7 (by decide) (hts _ (List.mem_of_getElem? (i := 1) rfl)) (fun _ h9 => h9) rfl dX3_takeProps_17 ?_
    refine sp_top (y := nI (tpr t)) (hR.prp) ?_
    refine lv_iconst (v := nI 1) hx hb dX3_takeProps_20 (by decide) ?_
    refine lv_iload_n hx hb dX3_takeProps_21 rfl (lv_at hl 2 rfl) ?_
    refine lv_ishl hx hb dX3_takeProps_22 ?_
    refine lv_iconst (v := (-1)) hx hb dX3_takeProps_23 (by decide) ?_
    refine lv_ixor hx hb dX3_takeProps_24 ?_
    refine lv_iand hx hb dX3_takeProps_25 ?_
    refine sp_top (y := nI (tpr t &&& (255 - 2 ^ i))) (sp_boff _ hI.pr8 i (by omega)) ?_
    refine va_put (D := g.1) (ci := 3) (v := .int (nI (tpr t &&& (255 - 2 ^ i)))) (ty := .int) (C := RX3) (T := TX3) (N := 8) hx hb hts inX3 tyX3 tyX3_ok nmX3 hown hK.1 hP hD hS 0 rfl rfl 7 (by decide) (hts _ (List.mem_of_getElem? (i := 1) rfl)) (fun _ h9 => h9) rfl (by decide +kernel) rfl rfl (Nat.le_of_ble_eq_true rfl) dX3_takeProps_26 (fun H locs hP hD hS => ?_)
    have hP : va_P g.1 vwCl (twW g a (u.1, u.2.1, u.2.2.1, u.2.2.2.1, u.2.2.2.2.1, u.2.2.2.2.2.1, u.2.2.2.2.2.2.1, (nI (tpr t &&& (255 - 2 ^ i))))) H := hP
    have hD : va_D A (twW g a (u.1, u.2.1, u.2.2.1, u.2.2.2.1, u.2.2.2.2.1, u.2.2.2.2.2.1, u.2.2.2.2.2.2.1, (nI (tpr t &&& (255 - 2 ^ i))))) := hD
    refine lv_aload_n hx hb dX3_takeProps_29 rfl (lv_at hl 1 rfl) ?_
    refine lv_iload_n hx hb dX3_takeProps_30 rfl (lv_at hl 2 rfl) ?_
    refine lv_iload_n hx hb dX3_takeProps_31 rfl (lv_at hl 0 rfl) ?_
    refine sp_vv0 (n := 2) SF hK hA (c_X3_shareAmong l g a (u.1, u.2.1, u.2.2.1, u.2.2.2.1, u.2.2.2.2.1, u.2.2.2.2.2.1, u.2.2.2.2.2.2.1, (nI (tpr t &&& (255 - 2 ^ i)))) (sp_off t i) (sp_R_pr hR _) (sp_I_off hI i) i hi (sp_frc t i)) gX3_takeProps_X3_shareAmong rfl rfl rfl (by decide +kernel) rfl ⟨Nat.le_of_ble_eq_true rfl, Nat.le_of_ble_eq_true rfl⟩ 3 0 rfl rfl hP hD hS hl.1 rfl (Nat.le_of_ble_eq_true rfl) dX3_takeProps_32 (fun u9 H locs hw1 hP hD hS => ?_)
    have hP : va_P g.1 vwCl (twW g a u9) H := hP
    have hD : va_D A (twW g a u9) := hD
    refine lv_iload_n hx hb dX3_takeProps_35 rfl (lv_at hl 2 rfl) ?_
    refine lv_if_le (tgt := 48) hx hb dX3_takeProps_36 (by decide) (fun c2 => ?_) (fun c2 => ?_)
    · have c2 := (sp_z_le (by omega)).mp c2
      exact hend _ _ _ _ u9 dX3_takeProps_48 (by unfold sp_stk; first | (rw [if_pos c2]; exact hw1) | (rw [if_neg c2]; exact hw2)) hP hD hS
    · have c2 := mt (sp_z_le (by omega)).mpr c2
      refine lv_aload_n hx hb dX3_takeProps_39 rfl (lv_at hl 1 rfl) ?_
      refine lv_iload_n hx hb dX3_takeProps_40 rfl (lv_at hl 2 rfl) ?_
      refine lv_iconst (v := nI 1) hx hb dX3_takeProps_41 (by decide) ?_
      refine lv_isub hx hb dX3_takeProps_42 ?_
      refine sp_top (y := nI (i - 1)) (sp_sub (by omega)) ?_
      refine lv_iload_n hx hb dX3_takeProps_43 rfl (lv_at hl 0 rfl) ?_
      refine lv_ineg hx hb dX3_takeProps_44 ?_
      refine sp_vv0 (n := 2) SF hK hA (c_X3_shareAmong l g a u9 (sp_stk1 t i) hw1 (sp_I_stk1 hI i) (i - 1) (by rw [show tn (sp_stk1 t i) = tn t from sp_shr_n _ _ _]; omega) (-(sp_frc t i))) gX3_takeProps_X3_shareAmong rfl rfl rfl (by decide +kernel) rfl ⟨Nat.le_of_ble_eq_true rfl, Nat.le_of_ble_eq_true rfl⟩ 3 0 rfl rfl hP hD hS hl.1 rfl (Nat.le_of_ble_eq_true rfl) dX3_takeProps_45 (fun u9 H locs hw2 hP hD hS => ?_)
      have hP : va_P g.1 vwCl (twW g a u9) H := hP
      have hD : va_D A (twW g a u9) := hD
      exact hend _ _ _ _ u9 dX3_takeProps_48 (by unfold sp_stk; first | (rw [if_pos c2]; exact hw1) | (rw [if_neg c2]; exact hw2)) hP hD hS
  · have c1 := sp_b0.mp c1
    exact absurd (c1.symm.trans (hbb.trans (sp_has_n hn8 hi))) (by decide)

set_option maxHeartbeats 4000000 in
set_option maxRecDepth 100000 in
theorem c_X3_copyFrom (l : Launch) (g : sp_G) (a b : sp_A) (u v : sp_U) (t : sp_T) (hR : sp_R v t) (hn8 : tn t ≤ 8) : sp_CV l g yX3_copyFrom wsX3_copyFrom ({ frames := 0, cells := 0, slots := 0, locals := 0 }) [.ref a.1, .ref b.1] (twW g a u ++ (twW g b v)) (fun w : sp_U => sp_R w t) (fun w => twW g a w ++ twW g b v) := by
  refine sp_CV.of (cc := cX3_copyFrom) (maxL := 3) (by decide) rfl (Nat.le_of_ble_eq_true rfl) ?_
  intro p e s m below meth c Q A ls SF hK hP hD hA hl hend
  have hx := SF.1
  have hb := SF.2.1
  have hown : s.vm.findClass RX3 = some m.cls := SF.2.2.2.1
  have hts := SF.2.2.2.2
  have hS : va_S A s.heap s.heap [] := va_S.rf
  have inX3 : ∀ w ∈ wsX30, w ∈ wsX3_copyFrom := fun w h => List.mem_cons_of_mem _ (List.mem_append_right _ h)
  have hl : lv_has ls 3 [(0, .ref a.1), (1, .ref b.1)] := hl
  refine lv_iconst (v := nI 0) hx hb dX3_copyFrom_0 (by decide) ?_
  refine lv_istore_n (lv' := [(2, .int (nI 0)), (0, .ref a.1), (1, .ref b.1)]) hx hb dX3_copyFrom_1 rfl hl (by decide) rfl (fun ls hl => ?_)
  have hloop2 : ∀ (n2 : Nat) (k : Nat) (fb : Nat → Int32) (H : Heap) (locs : List Loc) (ls : Array Slot), (k ≤ 4) → (∀ j, j < k → fb j = v.1 j) → 4 - k < n2 → va_P g.1 vwCl (twW g a (fb, u.2.1, u.2.2.1, u.2.2.2.1, u.2.2.2.2.1, u.2.2.2.2.2.1, u.2.2.2.2.2.2.1, u.2.2.2.2.2.2.2) ++ (twW g b v)) H → va_D A (twW g a (fb, u.2.1, u.2.2.1, u.2.2.2.1, u.2.2.2.2.1, u.2.2.2.2.2.1, u.2.2.2.2.2.2.1, u.2.2.2.2.2.2.2) ++ (twW g b v)) → va_S A s.heap H locs → lv_has ls 3 [(0, .ref a.1), (1, .ref b.1), (2, .int (nI k))] → W p l e ({ frames := 0, cells := 0, slots := 0, locals := 0 }) s m ([.ref a.1, .ref b.1] : List Value).toArray below meth c H locs 0 0 Q (F0 m 2 ls []) := by
    intro n2
    induction n2 with
    | zero =>
      intro k fb H locs ls hk hh h9
      exact absurd h9 (Nat.not_lt_zero _)
    | succ n2 ih2 =>
      intro k fb H locs ls hk hh hm2 hP hD hS hl
      refine lv_iload_n hx hb dX3_copyFrom_2 rfl (lv_at hl 2 rfl) ?_
      refine lv_iconst (v := nI 4) hx hb dX3_copyFrom_3 (by decide) ?_
      refine lv_icmp_ge (tgt := 25) hx hb dX3_copyFrom_4 (by decide) (fun c1 => ?_) (fun c1 => ?_)
      · have c1 := (nI_leI (by omega) (by omega)).mp c1
        refine lv_iconst (v := nI 0) hx hb dX3_copyFrom_25 (by decide) ?_
        refine lv_istore_n (lv' := [(2, .int (nI 0)), (0, .ref a.1), (1, .ref b.1)]) hx hb dX3_copyFrom_26 rfl hl (by decide) rfl (fun ls hl => ?_)
        have hloop27 : ∀ (n27 : Nat) (k : Nat) (fp : Nat → Int32) (fs : Nat → Int32) (fl : Nat → Int32) (H : Heap) (locs : List Loc) (ls : Array Slot), (k ≤ tn t) → (∀ j, j < k → fp j = v.2.1 j) → (∀ j, j < k → fs j = v.2.2.1 j) → (∀ j, j < k → fl j = v.2.2.2.1 j) → tn t - k < n27 → va_P g.1 vwCl (twW g a (fb, fp, fs, fl, u.2.2.2.2.1, u.2.2.2.2.2.1, u.2.2.2.2.2.2.1, u.2.2.2.2.2.2.2) ++ (twW g b v)) H → va_D A (twW g a (fb, fp, fs, fl, u.2.2.2.2.1, u.2.2.2.2.2.1, u.2.2.2.2.2.2.1, u.2.2.2.2.2.2.2) ++ (twW g b v)) → va_S A s.heap H locs → lv_has ls 3 [(0, .ref a.1), (1, .ref b.1), (2, .int (nI k))] → W p l e ({ frames := 0, cells := 0, slots := 0, locals := 0 }) s m ([.ref a.1, .ref b.1] : List Value).toArray below meth c H locs 0 0 Q (F0 m 27 ls []) := by
          intro n27
          induction n27 with
          | zero =>
            intro k fp fs fl H locs ls hk hp hs hf h9
            exact absurd h9 (Nat.not_lt_zero _)
          | succ n27 ih27 =>
            intro k fp fs fl H locs ls hk hp hs hf hm27 hP hD hS hl
            refine lv_iload_n hx hb dX3_copyFrom_27 rfl (lv_at hl 2 rfl) ?_
            refine lv_aload_n hx hb dX3_copyFrom_28 rfl (lv_at hl 1 rfl) ?_
            refine va_get (D := g.1) (ci := 3) (v := .int v.2.2.2.2.2.2.1) (C := RX3) (T := TX3) (N := 8) hx hb hts inX3 hown hK.1 hP 6 rfl rfl 6 (by decide) (hts _ (List.mem_of_getElem? (i := 2) rfl)) (fun _ h9 => h9) rfl dX3_copyFrom_29 ?_
            refine sp_top (y := nI (tn t)) (hR.cnt) ?_
            refine lv_icmp_ge (tgt := 77) hx hb dX3_copyFrom_32 (by decide) (fun c2 => ?_) (fun c2 => ?_)
            · have c2 := (nI_leI (by omega) (by omega)).mp c2
              refine lv_aload_n hx hb dX3_copyFrom_77 rfl (lv_at hl 0 rfl) ?_
              refine lv_aload_n hx hb dX3_copyFrom_78 rfl (lv_at hl 1 rfl) ?_
              refine va_get (D := g.1) (ci := 3) (v := .int v.2.2.2.2.2.1) (C := RX3) (T := TX3) (N := 8) hx hb hts inX3 hown hK.1 hP 6 rfl rfl 5 (by decide) (hts _ (List.mem_of_getElem? (i := 6) rfl)) (fun _ h9 => h9) rfl dX3_copyFrom_79 ?_
              refine va_put (D := g.1) (ci := 3) (v := .int v.2.2.2.2.2.1) (ty := .int) (C := RX3) (T := TX3) (N := 8) hx hb hts inX3 tyX3 tyX3_ok nmX3 hown hK.1 hP hD hS 0 rfl rfl 5 (by decide) (hts _ (List.mem_of_getElem? (i := 6) rfl)) (fun _ h9 => h9) rfl (by decide +kernel) rfl rfl (Nat.le_of_ble_eq_true rfl) dX3_copyFrom_82 (fun H locs hP hD hS => ?_)
              have hP : va_P g.1 vwCl (twW g a (fb, fp, fs, fl, u.2.2.2.2.1, v.2.2.2.2.2.1, u.2.2.2.2.2.2.1, u.2.2.2.2.2.2.2) ++ (twW g b v)) H := hP
              have hD : va_D A (twW g a (fb, fp, fs, fl, u.2.2.2.2.1, v.2.2.2.2.2.1, u.2.2.2.2.2.2.1, u.2.2.2.2.2.2.2) ++ (twW g b v)) := hD
              refine lv_aload_n hx hb dX3_copyFrom_85 rfl (lv_at hl 0 rfl) ?_
              refine lv_aload_n hx hb dX3_copyFrom_86 rfl (lv_at hl 1 rfl) ?_
              refine va_get (D := g.1) (ci := 3) (v := .int v.2.2.2.2.2.2.1) (C := RX3) (T := TX3) (N := 8) hx hb hts inX3 hown hK.1 hP 6 rfl rfl 6 (by decide) (hts _ (List.mem_of_getElem? (i := 2) rfl)) (fun _ h9 => h9) rfl dX3_copyFrom_87 ?_
              refine va_put (D := g.1) (ci := 3) (v := .int v.2.2.2.2.2.2.1) (ty := .int) (C := RX3) (T := TX3) (N := 8) hx hb hts inX3 tyX3 tyX3_ok nmX3 hown hK.1 hP hD hS 0 rfl rfl 6 (by decide) (hts _ (List.mem_of_getElem? (i := 2) rfl)) (fun _ h9 => h9) rfl (by decide +kernel) rfl rfl (Nat.le_of_ble_eq_true rfl) dX3_copyFrom_90 (fun H locs hP hD hS => ?_)
              have hP : va_P g.1 vwCl (twW g a (fb, fp, fs, fl, u.2.2.2.2.1, v.2.2.2.2.2.1, v.2.2.2.2.2.2.1, u.2.2.2.2.2.2.2) ++ (twW g b v)) H := hP
              have hD : va_D A (twW g a (fb, fp, fs, fl, u.2.2.2.2.1, v.2.2.2.2.2.1, v.2.2.2.2.2.2.1, u.2.2.2.2.2.2.2) ++ (twW g b v)) := hD
              refine lv_aload_n hx hb dX3_copyFrom_93 rfl (lv_at hl 0 rfl) ?_
              refine lv_aload_n hx hb dX3_copyFrom_94 rfl (lv_at hl 1 rfl) ?_
              refine va_get (D := g.1) (ci := 3) (v := .int v.2.2.2.2.2.2.2) (C := RX3) (T := TX3) (N := 8) hx hb hts inX3 hown hK.1 hP 6 rfl rfl 7 (by decide) (hts _ (List.mem_of_getElem? (i := 7) rfl)) (fun _ h9 => h9) rfl dX3_copyFrom_95 ?_
              refine va_put (D := g.1) (ci := 3) (v := .int v.2.2.2.2.2.2.2) (ty := .int) (C := RX3) (T := TX3) (N := 8) hx hb hts inX3 tyX3 tyX3_ok nmX3 hown hK.1 hP hD hS 0 rfl rfl 7 (by decide) (hts _ (List.mem_of_getElem? (i := 7) rfl)) (fun _ h9 => h9) rfl (by decide +kernel) rfl rfl (Nat.le_of_ble_eq_true rfl) dX3_copyFrom_98 (fun H locs hP hD hS => ?_)
              have hP : va_P g.1 vwCl (twW g a (fb, fp, fs, fl, u.2.2.2.2.1, v.2.2.2.2.2.1, v.2.2.2.2.2.2.1, v.2.2.2.2.2.2.2) ++ (twW g b v)) H := hP
              have hD : va_D A (twW g a (fb, fp, fs, fl, u.2.2.2.2.1, v.2.2.2.2.2.1, v.2.2.2.2.2.2.1, v.2.2.2.2.2.2.2) ++ (twW g b v)) := hD
              exact hend _ _ _ _ (fb, fp, fs, fl, u.2.2.2.2.1, v.2.2.2.2.2.1, v.2.2.2.2.2.2.1, v.2.2.2.2.2.2.2) dX3_copyFrom_101 (⟨⟨(hh 0 (by omega)).trans hR.b0, (hh 1 (by omega)).trans hR.b1, (hh 2 (by omega)).trans hR.b2, (hh 3 (by omega)).trans hR.b3⟩, fun j hj => (hp j (by omega)).trans (hR.po hj), fun j hj => (hs j (by omega)).trans (hR.sl hj), fun j hj => (hf j (by omega)).trans (hR.lo hj), hR.day, hR.cnt, hR.prp⟩) hP hD hS
            · have c2 := mt (nI_leI (by omega) (by omega)).mpr c2
              refine lv_aload_n hx hb dX3_copyFrom_35 rfl (lv_at hl 0 rfl) ?_
              refine va_get (D := g.1) (ci := 3) (v := .ref a.2.2.1) (C := RX3) (T := TX3) (N := 8) hx hb hts inX3 hown hK.1 hP 0 rfl rfl 1 (by decide) (hts _ (List.mem_of_getElem? (i := 3) rfl)) (fun _ h9 => h9) rfl dX3_copyFrom_36 ?_
              refine lv_iload_n hx hb dX3_copyFrom_39 rfl (lv_at hl 2 rfl) ?_
              refine lv_aload_n hx hb dX3_copyFrom_40 rfl (lv_at hl 1 rfl) ?_
              refine va_get (D := g.1) (ci := 3) (v := .ref b.2.2.1) (C := RX3) (T := TX3) (N := 8) hx hb hts inX3 hown hK.1 hP 6 rfl rfl 1 (by decide) (hts _ (List.mem_of_getElem? (i := 3) rfl)) (fun _ h9 => h9) rfl dX3_copyFrom_41 ?_
              refine lv_iload_n hx hb dX3_copyFrom_44 rfl (lv_at hl 2 rfl) ?_
              refine va_iald hx hb hK.1 hP 8 0 rfl rfl (vp_in_nI (by omega) (by omega)) dX3_copyFrom_45 ?_
              refine sp_top (y := v.2.1 k) (congrArg v.2.1 (sp_c8 (k := k) (by omega))) ?_
              refine va_iast hx hb hK.1 hP hD hS 2 0 rfl rfl (vp_in_nI (by omega) (by omega)) dX3_copyFrom_46 (fun H locs hP hD hS => ?_)
              rw [sp_c8 (k := k) (by omega)] at hP hD
              have hP : va_P g.1 vwCl (twW g a (fb, (upd fp k (v.2.1 k)), fs, fl, u.2.2.2.2.1, u.2.2.2.2.2.1, u.2.2.2.2.2.2.1, u.2.2.2.2.2.2.2) ++ (twW g b v)) H := hP
              have hD : va_D A (twW g a (fb, (upd fp k (v.2.1 k)), fs, fl, u.2.2.2.2.1, u.2.2.2.2.2.1, u.2.2.2.2.2.2.1, u.2.2.2.2.2.2.2) ++ (twW g b v)) := hD
              refine lv_aload_n hx hb dX3_copyFrom_47 rfl (lv_at hl 0 rfl) ?_
              refine va_get (D := g.1) (ci := 3) (v := .ref a.2.2.2.1) (C := RX3) (T := TX3) (N := 8) hx hb hts inX3 hown hK.1 hP 0 rfl rfl 2 (by decide) (hts _ (List.mem_of_getElem? (i := 4) rfl)) (fun _ h9 => h9) rfl dX3_copyFrom_48 ?_
              refine lv_iload_n hx hb dX3_copyFrom_51 rfl (lv_at hl 2 rfl) ?_
              refine lv_aload_n hx hb dX3_copyFrom_52 rfl (lv_at hl 1 rfl) ?_
              refine va_get (D := g.1) (ci := 3) (v := .ref b.2.2.2.1) (C := RX3) (T := TX3) (N := 8) hx hb hts inX3 hown hK.1 hP 6 rfl rfl 2 (by decide) (hts _ (List.mem_of_getElem? (i := 4) rfl)) (fun _ h9 => h9) rfl dX3_copyFrom_53 ?_
              refine lv_iload_n hx hb dX3_copyFrom_56 rfl (lv_at hl 2 rfl) ?_
              refine va_iald hx hb hK.1 hP 9 0 rfl rfl (vp_in_nI (by omega) (by omega)) dX3_copyFrom_57 ?_
              refine sp_top (y := v.2.2.1 k) (congrArg v.2.2.1 (sp_c8 (k := k) (by omega))) ?_
              refine va_iast hx hb hK.1 hP hD hS 3 0 rfl rfl (vp_in_nI (by omega) (by omega)) dX3_copyFrom_58 (fun H locs hP hD hS => ?_)
              rw [sp_c8 (k := k) (by omega)] at hP hD
              have hP : va_P g.1 vwCl (twW g a (fb, (upd fp k (v.2.1 k)), (upd fs k (v.2.2.1 k)), fl, u.2.2.2.2.1, u.2.2.2.2.2.1, u.2.2.2.2.2.2.1, u.2.2.2.2.2.2.2) ++ (twW g b v)) H := hP
              have hD : va_D A (twW g a (fb, (upd fp k (v.2.1 k)), (upd fs k (v.2.2.1 k)), fl, u.2.2.2.2.1, u.2.2.2.2.2.1, u.2.2.2.2.2.2.1, u.2.2.2.2.2.2.2) ++ (twW g b v)) := hD
              refine lv_aload_n hx hb dX3_copyFrom_59 rfl (lv_at hl 0 rfl) ?_
              refine va_get (D := g.1) (ci := 3) (v := .ref a.2.2.2.2.1) (C := RX3) (T := TX3) (N := 8) hx hb hts inX3 hown hK.1 hP 0 rfl rfl 3 (by decide) (hts _ (List.mem_of_getElem? (i := 5) rfl)) (fun _ h9 => h9) rfl dX3_copyFrom_60 ?_
              refine lv_iload_n hx hb dX3_copyFrom_63 rfl (lv_at hl 2 rfl) ?_
              refine lv_aload_n hx hb dX3_copyFrom_64 rfl (lv_at hl 1 rfl) ?_
              refine va_get (D := g.1) (ci := 3) (v := .ref b.2.2.2.2.1) (C := RX3) (T := TX3) (N := 8) hx hb hts inX3 hown hK.1 hP 6 rfl rfl 3 (by decide) (hts _ (List.mem_of_getElem? (i := 5) rfl)) (fun _ h9 => h9) rfl dX3_copyFrom_65 ?_
              refine lv_iload_n hx hb dX3_copyFrom_68 rfl (lv_at hl 2 rfl) ?_
              refine va_iald hx hb hK.1 hP 10 0 rfl rfl (vp_in_nI (by omega) (by omega)) dX3_copyFrom_69 ?_
              refine sp_top (y := v.2.2.2.1 k) (congrArg v.2.2.2.1 (sp_c8 (k := k) (by omega))) ?_
              refine va_iast hx hb hK.1 hP hD hS 4 0 rfl rfl (vp_in_nI (by omega) (by omega)) dX3_copyFrom_70 (fun H locs hP hD hS => ?_)
              rw [sp_c8 (k := k) (by omega)] at hP hD
              have hP : va_P g.1 vwCl (twW g a (fb, (upd fp k (v.2.1 k)), (upd fs k (v.2.2.1 k)), (upd fl k (v.2.2.2.1 k)), u.2.2.2.2.1, u.2.2.2.2.2.1, u.2.2.2.2.2.2.1, u.2.2.2.2.2.2.2) ++ (twW g b v)) H := hP
              have hD : va_D A (twW g a (fb, (upd fp k (v.2.1 k)), (upd fs k (v.2.2.1 k)), (upd fl k (v.2.2.2.1 k)), u.2.2.2.2.1, u.2.2.2.2.2.1, u.2.2.2.2.2.2.1, u.2.2.2.2.2.2.2) ++ (twW g b v)) := hD
              refine lv_iinc (v := nI (k + 1)) (lv' := [(2, .int (nI (k + 1))), (0, .ref a.1), (1, .ref b.1)]) hx hb dX3_copyFrom_71 hl (k := 2) rfl (nI_1 k) (by decide) rfl (fun ls hl => ?_)
              refine lv_goto (tgt := 27) hx hb dX3_copyFrom_74 (by decide) ?_
              exact ih27 (k + 1) (upd fp k (v.2.1 k)) (upd fs k (v.2.2.1 k)) (upd fl k (v.2.2.2.1 k)) _ _ _ (by omega) (sp_upd_ext0 hp rfl) (sp_upd_ext0 hs rfl) (sp_upd_ext0 hf rfl) (by omega) hP hD hS (lv_sub hl [1, 2, 0] rfl)
        exact hloop27 (_ + 1) 0 u.2.1 u.2.2.1 u.2.2.2.1 _ _ _ (by omega) (fun j hj => absurd hj (Nat.not_lt_zero j)) (fun j hj => absurd hj (Nat.not_lt_zero j)) (fun j hj => absurd hj (Nat.not_lt_zero j)) (Nat.lt_succ_self _) hP hD hS (lv_sub hl [1, 2, 0] rfl)
      · have c1 := mt (nI_leI (by omega) (by omega)).mpr c1
        refine lv_aload_n hx hb dX3_copyFrom_7 rfl (lv_at hl 0 rfl) ?_
        refine va_get (D := g.1) (ci := 3) (v := .ref a.2.1) (C := RX3) (T := TX3) (N := 8) hx hb hts inX3 hown hK.1 hP 0 rfl rfl 0 (by decide) (hts _ (List.mem_of_getElem? (i := 1) rfl)) (fun _ h9 => h9) rfl dX3_copyFrom_8 ?_
        refine lv_iload_n hx hb dX3_copyFrom_11 rfl (lv_at hl 2 rfl) ?_
        refine lv_aload_n hx hb dX3_copyFrom_12 rfl (lv_at hl 1 rfl) ?_
        refine va_get (D := g.1) (ci := 3) (v := .ref b.2.1) (C := RX3) (T := TX3) (N := 8) hx hb hts inX3 hown hK.1 hP 6 rfl rfl 0 (by decide) (hts _ (List.mem_of_getElem? (i := 1) rfl)) (fun _ h9 => h9) rfl dX3_copyFrom_13 ?_
        refine lv_iload_n hx hb dX3_copyFrom_16 rfl (lv_at hl 2 rfl) ?_
        refine va_iald hx hb hK.1 hP 7 0 rfl rfl (vp_in_nI (by omega) (by omega)) dX3_copyFrom_17 ?_
        refine sp_top (y := v.1 k) (congrArg v.1 (sp_c8 (k := k) (by omega))) ?_
        refine va_iast hx hb hK.1 hP hD hS 1 0 rfl rfl (vp_in_nI (by omega) (by omega)) dX3_copyFrom_18 (fun H locs hP hD hS => ?_)
        rw [sp_c8 (k := k) (by omega)] at hP hD
        have hP : va_P g.1 vwCl (twW g a ((upd fb k (v.1 k)), u.2.1, u.2.2.1, u.2.2.2.1, u.2.2.2.2.1, u.2.2.2.2.2.1, u.2.2.2.2.2.2.1, u.2.2.2.2.2.2.2) ++ (twW g b v)) H := hP
        have hD : va_D A (twW g a ((upd fb k (v.1 k)), u.2.1, u.2.2.1, u.2.2.2.1, u.2.2.2.2.1, u.2.2.2.2.2.1, u.2.2.2.2.2.2.1, u.2.2.2.2.2.2.2) ++ (twW g b v)) := hD
        refine lv_iinc (v := nI (k + 1)) (lv' := [(2, .int (nI (k + 1))), (0, .ref a.1), (1, .ref b.1)]) hx hb dX3_copyFrom_19 hl (k := 2) rfl (nI_1 k) (by decide) rfl (fun ls hl => ?_)
        refine lv_goto (tgt := 2) hx hb dX3_copyFrom_22 (by decide) ?_
        exact ih2 (k + 1) (upd fb k (v.1 k)) _ _ _ (by omega) (sp_upd_ext0 hh rfl) (by omega) hP hD hS (lv_sub hl [1, 2, 0] rfl)
  exact hloop2 (_ + 1) 0 u.1 _ _ _ (by omega) (fun j hj => absurd hj (Nat.not_lt_zero j)) (Nat.lt_succ_self _) hP hD hS (lv_sub hl [1, 2, 0] rfl)

