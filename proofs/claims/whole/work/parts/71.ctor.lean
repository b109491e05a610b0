theorem sp_M_x0 : sp_M ((upd (upd (fun _ => 0) 2 (nI 20)) 3 (nI 60)), (fun _ => 0), (fun _ => 0), 0, (fun _ => 0), (fun _ => 0), (fun _ => 0), 0, (fun _ => 0), 0, (fun _ => 0)) sp_x0 := ⟨⟨rfl, rfl, rfl, rfl, rfl, rfl, fun k hk => absurd hk (Nat.not_lt_zero k)⟩, rfl, fun j hj => absurd hj (Nat.not_lt_zero j), rfl, fun k hk => absurd hk (Nat.not_lt_zero k), fun i hi => rfl, (fun i hi h => absurd h Bool.false_ne_true), rfl⟩
set_option maxHeartbeats 4000000 in
set_option maxRecDepth 100000 in
theorem c_X3_init (l : Launch) (g : sp_G) (a0 : Nat) : sp_CM l g yX3_init wsX3_init ({ frames := 1, cells := 5, slots := 36, locals := 12 }) 5 36 [.ref a0] [(a0, .inr (3, [.null, .null, .null, .null, .null, .int 0, .int 0, .int 0]))] (S := sp_A × sp_U) (fun u => a0 = u.1.1 ∧ sp_R u.2 (s_now sp_x0)) (fun u => twW g u.1 u.2) := by
  refine sp_CM.of (cc := cX3_init) (maxL := 1) (by decide) rfl (Nat.le_of_ble_eq_true rfl) ?_
  intro p e s m below meth c Q A ls SF hnm hK hP hD hA hl hend
  have hin : meth.name = "<init>" := hnm
  have hx := SF.1
  have hb := SF.2.1
  have hown : s.vm.findClass RX3 = some m.cls := SF.2.2.2.1
  have hts := SF.2.2.2.2
  have hS : va_S A s.heap s.heap [] := va_S.rf
  have inX3 : ∀ w ∈ wsX30, w ∈ wsX3_init := fun w h => List.mem_cons_of_mem _ (List.mem_append_right _ h)
  have hl : lv_has ls 1 [(0, .ref a0)] := hl
  refine lv_aload_n hx hb dX3_init_0 rfl (lv_at hl 0 rfl) ?_
  refine W.objInit hx hb hown (hts _ (List.mem_of_getElem? (i := 1) rfl)) (hts _ (List.mem_of_getElem? (i := 2) rfl)) (hts _ (List.mem_of_getElem? (i := 3) rfl)) rfl (hl.1.trans SF.2.2.1.symm) rfl dX3_init_1 (Nat.le_of_ble_eq_true rfl) (Nat.le_of_ble_eq_true rfl) ?_
  refine lv_aload_n hx hb dX3_init_4 rfl (lv_at hl 0 rfl) ?_
  refine lv_iconst (v := nI 4) hx hb dX3_init_5 (by decide) ?_
  refine sp_newi (N' := 4) hx hb (hts _ (List.mem_of_getElem? (i := 4) rfl)) hK.1 hP hD hS hA (by decide) (by decide +kernel) (Nat.le_of_ble_eq_true rfl) (Nat.le_of_ble_eq_true rfl) (Nat.le_of_ble_eq_true rfl) dX3_init_6 (fun q1 H hP hD hS => ?_)
  have hP : va_P g.1 vwCl ([(a0, .inr (3, [.null, .null, .null, .null, .null, .int 0, .int 0, .int 0])), (q1, .inl (g.2.1, 4, .inl (fun _ => 0)))]) H := hP
  have hD : va_D A ([(a0, .inr (3, [.null, .null, .null, .null, .null, .int 0, .int 0, .int 0])), (q1, .inl (g.2.1, 4, .inl (fun _ => 0)))]) := hD
  refine W.widen (k := 1) (n := 4) (Nat.le_of_ble_eq_true rfl) (Nat.le_of_ble_eq_true rfl) ?_
  refine lv_dup hx hb dX3_init_8 rfl ?_
  refine lv_iconst (v := nI 0) hx hb dX3_init_9 (by decide) ?_
  refine lv_bipush (v := nI 20) hx hb dX3_init_10 (by decide) ?_
  refine va_iast hx hb hK.1.1 hP hD hS 1 0 rfl rfl (vp_in_nI (by omega) (by omega)) dX3_init_12 (fun H locs hP hD hS => ?_)
  rw [sp_c8 (k := 0) (by omega)] at hP hD
  have hP : va_P g.1 vwCl ([(a0, .inr (3, [.null, .null, .null, .null, .null, .int 0, .int 0, .int 0])), (q1, .inl (g.2.1, 4, .inl (upd (fun _ => 0) 0 (nI 20))))]) H := hP
  have hD : va_D A ([(a0, .inr (3, [.null, .null, .null, .null, .null, .int 0, .int 0, .int 0])), (q1, .inl (g.2.1, 4, .inl (upd (fun _ => 0) 0 (nI 20))))]) := hD
  refine lv_dup hx hb dX3_init_13 rfl ?_
  refine lv_iconst (v := nI 1) hx hb dX3_init_14 (by decide) ?_
  refine lv_bipush (v := nI 60) hx hb dX3_init_15 (by decide) ?_
  refine va_iast hx hb hK.1.1 hP hD hS 1 0 rfl rfl (vp_in_nI (by omega) (by omega)) dX3_init_17 (fun H locs hP hD hS => ?_)
  rw [sp_c8 (k := 1) (by omega)] at hP hD
  have hP : va_P g.1 vwCl ([(a0, .inr (3, [.null, .null, .null, .null, .null, .int 0, .int 0, .int 0])), (q1, .inl (g.2.1, 4, .inl (upd (upd (fun _ => 0) 0 (nI 20)) 1 (nI 60))))]) H := hP
  have hD : va_D A ([(a0, .inr (3, [.null, .null, .null, .null, .null, .int 0, .int 0, .int 0])), (q1, .inl (g.2.1, 4, .inl (upd (upd (fun _ => 0) 0 (nI 20)) 1 (nI 60))))]) := hD
  refine lv_dup hx hb dX3_init_18 rfl ?_
  refine lv_iconst (v := nI 2) hx hb dX3_init_19 (by decide) ?_
  refine lv_iconst (v := nI 0) hx hb dX3_init_20 (by decide) ?_
  refine va_iast hx hb hK.1.1 hP hD hS 1 0 rfl rfl (vp_in_nI (by omega) (by omega)) dX3_init_21 (fun H locs hP hD hS => ?_)
  rw [sp_c8 (k := 2) (by omega)] at hP hD
  have hP : va_P g.1 vwCl ([(a0, .inr (3, [.null, .null, .null, .null, .null, .int 0, .int 0, .int 0])), (q1, .inl (g.2.1, 4, .inl (upd (upd (upd (fun _ => 0) 0 (nI 20)) 1 (nI 60)) 2 (nI 0))))]) H := hP
  have hD : va_D A ([(a0, .inr (3, [.null, .null, .null, .null, .null, .int 0, .int 0, .int 0])), (q1, .inl (g.2.1, 4, .inl (upd (upd (upd (fun _ => 0) 0 (nI 20)) 1 (nI 60)) 2 (nI 0))))]) := hD
  refine lv_dup hx hb dX3_init_22 rfl ?_
  refine lv_iconst (v := nI 3) hx hb dX3_init_23 (by decide) ?_
  refine lv_iconst (v := nI 0) hx hb dX3_init_24 (by decide) ?_
  refine va_iast hx hb hK.1.1 hP hD hS 1 0 rfl rfl (vp_in_nI (by omega) (by omega)) dX3_init_25 (fun H locs hP hD hS => ?_)
  rw [sp_c8 (k := 3) (by omega)] at hP hD
  have hP : va_P g.1 vwCl ([(a0, .inr (3, [.null, .null, .null, .null, .null, .int 0, .int 0, .int 0])), (q1, .inl (g.2.1, 4, .inl (upd (upd (upd (upd (fun _ => 0) 0 (nI 20)) 1 (nI 60)) 2 (nI 0)) 3 (nI 0))))]) H := hP
  have hD : va_D A ([(a0, .inr (3, [.null, .null, .null, .null, .null, .int 0, .int 0, .int 0])), (q1, .inl (g.2.1, 4, .inl (upd (upd (upd (upd (fun _ => 0) 0 (nI 20)) 1 (nI 60)) 2 (nI 0)) 3 (nI 0))))]) := hD
  refine va_putF (D := g.1) (ci := 3) (v := .ref q1) (ty := .array .int) (C := RX3) (T := TX3) (N := 8) hx hb hts inX3 tyX3 tyX3_ok nmX3 hown hK.1.1 hP hD hS 0 rfl rfl 0 (by decide) (hts _ (List.mem_of_getElem? (i := 5) rfl)) (fun _ h9 => h9) rfl hin rfl (by decide +kernel) rfl rfl (Nat.le_of_ble_eq_true rfl) dX3_init_26 (fun H locs hP hD hS => ?_)
  have hP : va_P g.1 vwCl ([(a0, .inr (3, [.ref q1, .null, .null, .null, .null, .int 0, .int 0, .int 0])), (q1, .inl (g.2.1, 4, .inl (upd (upd (upd (upd (fun _ => 0) 0 (nI 20)) 1 (nI 60)) 2 (nI 0)) 3 (nI 0))))]) H := hP
  have hD : va_D A ([(a0, .inr (3, [.ref q1, .null, .null, .null, .null, .int 0, .int 0, .int 0])), (q1, .inl (g.2.1, 4, .inl (upd (upd (upd (upd (fun _ => 0) 0 (nI 20)) 1 (nI 60)) 2 (nI 0)) 3 (nI 0))))]) := hD
  refine lv_aload_n hx hb dX3_init_29 rfl (lv_at hl 0 rfl) ?_
  refine lv_bipush (v := nI 8) hx hb dX3_init_30 (by decide) ?_
  refine sp_newi (N' := 8) hx hb (hts _ (List.mem_of_getElem? (i := 4) rfl)) hK.1 hP hD hS hA (by decide) (by decide +kernel) (Nat.le_of_ble_eq_true rfl) (Nat.le_of_ble_eq_true rfl) (Nat.le_of_ble_eq_true rfl) dX3_init_32 (fun q2 H hP hD hS => ?_)
  have hP : va_P g.1 vwCl ([(a0, .inr (3, [.ref q1, .null, .null, .null, .null, .int 0, .int 0, .int 0])), (q1, .inl (g.2.1, 4, .inl (upd (upd (upd (upd (fun _ => 0) 0 (nI 20)) 1 (nI 60)) 2 (nI 0)) 3 (nI 0)))), (q2, .inl (g.2.1, 8, .inl (fun _ => 0)))]) H := hP
  have hD : va_D A ([(a0, .inr (3, [.ref q1, .null, .null, .null, .null, .int 0, .int 0, .int 0])), (q1, .inl (g.2.1, 4, .inl (upd (upd (upd (upd (fun _ => 0) 0 (nI 20)) 1 (nI 60)) 2 (nI 0)) 3 (nI 0)))), (q2, .inl (g.2.1, 8, .inl (fun _ => 0)))]) := hD
  refine W.widen (k := 2) (n := 12) (Nat.le_of_ble_eq_true rfl) (Nat.le_of_ble_eq_true rfl) ?_
  refine va_putF (D := g.1) (ci := 3) (v := .ref q2) (ty := .array .int) (C := RX3) (T := TX3) (N := 8) hx hb hts inX3 tyX3 tyX3_ok nmX3 hown hK.1.1 hP hD hS 0 rfl rfl 1 (by decide) (hts _ (List.mem_of_getElem? (i := 6) rfl)) (fun _ h9 => h9) rfl hin rfl (by decide +kernel) rfl rfl (Nat.le_of_ble_eq_true rfl) dX3_init_34 (fun H locs hP hD hS => ?_)
  have hP : va_P g.1 vwCl ([(a0, .inr (3, [.ref q1, .ref q2, .null, .null, .null, .int 0, .int 0, .int 0])), (q1, .inl (g.2.1, 4, .inl (upd (upd (upd (upd (fun _ => 0) 0 (nI 20)) 1 (nI 60)) 2 (nI 0)) 3 (nI 0)))), (q2, .inl (g.2.1, 8, .inl (fun _ => 0)))]) H := hP
  have hD : va_D A ([(a0, .inr (3, [.ref q1, .ref q2, .null, .null, .null, .int 0, .int 0, .int 0])), (q1, .inl (g.2.1, 4, .inl (upd (upd (upd (upd (fun _ => 0) 0 (nI 20)) 1 (nI 60)) 2 (nI 0)) 3 (nI 0)))), (q2, .inl (g.2.1, 8, .inl (fun _ => 0)))]) := hD
  refine lv_aload_n hx hb dX3_init_37 rfl (lv_at hl 0 rfl) ?_
  refine lv_bipush (v := nI 8) hx hb dX3_init_38 (by decide) ?_
  refine sp_newi (N' := 8) hx hb (hts _ (List.mem_of_getElem? (i := 4) rfl)) hK.1 hP hD hS hA (by decide) (by decide +kernel) (Nat.le_of_ble_eq_true rfl) (Nat.le_of_ble_eq_true rfl) (Nat.le_of_ble_eq_true rfl) dX3_init_40 (fun q3 H hP hD hS => ?_)
  have hP : va_P g.1 vwCl ([(a0, .inr (3, [.ref q1, .ref q2, .null, .null, .null, .int 0, .int 0, .int 0])), (q1, .inl (g.2.1, 4, .inl (upd (upd (upd (upd (fun _ => 0) 0 (nI 20)) 1 (nI 60)) 2 (nI 0)) 3 (nI 0)))), (q2, .inl (g.2.1, 8, .inl (fun _ => 0))), (q3, .inl (g.2.1, 8, .inl (fun _ => 0)))]) H := hP
  have hD : va_D A ([(a0, .inr (3, [.ref q1, .ref q2, .null, .null, .null, .int 0, .int 0, .int 0])), (q1, .inl (g.2.1, 4, .inl (upd (upd (upd (upd (fun _ => 0) 0 (nI 20)) 1 (nI 60)) 2 (nI 0)) 3 (nI 0)))), (q2, .inl (g.2.1, 8, .inl (fun _ => 0))), (q3, .inl (g.2.1, 8, .inl (fun _ => 0)))]) := hD
  refine W.widen (k := 3) (n := 20) (Nat.le_of_ble_eq_true rfl) (Nat.le_of_ble_eq_true rfl) ?_
  refine va_putF (D := g.1) (ci := 3) (v := .ref q3) (ty := .array .int) (C := RX3) (T := TX3) (N := 8) hx hb hts inX3 tyX3 tyX3_ok nmX3 hown hK.1.1 hP hD hS 0 rfl rfl 2 (by decide) (hts _ (List.mem_of_getElem? (i := 7) rfl)) (fun _ h9 => h9) rfl hin rfl (by decide +kernel) rfl rfl (Nat.le_of_ble_eq_true rfl) dX3_init_42 (fun H locs hP hD hS => ?_)
  have hP : va_P g.1 vwCl ([(a0, .inr (3, [.ref q1, .ref q2, .ref q3, .null, .null, .int 0, .int 0, .int 0])), (q1, .inl (g.2.1, 4, .inl (upd (upd (upd (upd (fun _ => 0) 0 (nI 20)) 1 (nI 60)) 2 (nI 0)) 3 (nI 0)))), (q2, .inl (g.2.1, 8, .inl (fun _ => 0))), (q3, .inl (g.2.1, 8, .inl (fun _ => 0)))]) H := hP
  have hD : va_D A ([(a0, .inr (3, [.ref q1, .ref q2, .ref q3, .null, .null, .int 0, .int 0, .int 0])), (q1, .inl (g.2.1, 4, .inl (upd (upd (upd (upd (fun _ => 0) 0 (nI 20)) 1 (nI 60)) 2 (nI 0)) 3 (nI 0)))), (q2, .inl (g.2.1, 8, .inl (fun _ => 0))), (q3, .inl (g.2.1, 8, .inl (fun _ => 0)))]) := hD
  refine lv_aload_n hx hb dX3_init_45 rfl (lv_at hl 0 rfl) ?_
  refine lv_bipush (v := nI 8) hx hb dX3_init_46 (by decide) ?_
  refine sp_newi (N' := 8) hx hb (hts _ (List.mem_of_getElem? (i := 4) rfl)) hK.1 hP hD hS hA (by decide) (by decide +kernel) (Nat.le_of_ble_eq_true rfl) (Nat.le_of_ble_eq_true rfl) (Nat.le_of_ble_eq_true rfl) dX3_init_48 (fun q4 H hP hD hS => ?_)
  have hP : va_P g.1 vwCl ([(a0, .inr (3, [.ref q1, .ref q2, .ref q3, .null, .null, .int 0, .int 0, .int 0])), (q1, .inl (g.2.1, 4, .inl (upd (upd (upd (upd (fun _ => 0) 0 (nI 20)) 1 (nI 60)) 2 (nI 0)) 3 (nI 0)))), (q2, .inl (g.2.1, 8, .inl (fun _ => 0))), (q3, .inl (g.2.1, 8, .inl (fun _ => 0))), (q4, .inl (g.2.1, 8, .inl (fun _ => 0)))]) H := hP
  have hD : va_D A ([(a0, .inr (3, [.ref q1, .ref q2, .ref q3, .null, .null, .int 0, .int 0, .int 0])), (q1, .inl (g.2.1, 4, .inl (upd (upd (upd (upd (fun _ => 0) 0 (nI 20)) 1 (nI 60)) 2 (nI 0)) 3 (nI 0)))), (q2, .inl (g.2.1, 8, .inl (fun _ => 0))), (q3, .inl (g.2.1, 8, .inl (fun _ => 0))), (q4, .inl (g.2.1, 8, .inl (fun _ => 0)))]) := hD
  refine W.widen (k := 4) (n := 28) (Nat.le_of_ble_eq_true rfl) (Nat.le_of_ble_eq_true rfl) ?_
  refine va_putF (D := g.1) (ci := 3) (v := .ref q4) (ty := .array .int) (C := RX3) (T := TX3) (N := 8) hx hb hts inX3 tyX3 tyX3_ok nmX3 hown hK.1.1 hP hD hS 0 rfl rfl 3 (by decide) (hts _ (List.mem_of_getElem? (i := 8) rfl)) (fun _ h9 => h9) rfl hin rfl (by decide +kernel) rfl rfl (Nat.le_of_ble_eq_true rfl) dX3_init_50 (fun H locs hP hD hS => ?_)
  have hP : va_P g.1 vwCl ([(a0, .inr (3, [.ref q1, .ref q2, .ref q3, .ref q4, .null, .int 0, .int 0, .int 0])), (q1, .inl (g.2.1, 4, .inl (upd (upd (upd (upd (fun _ => 0) 0 (nI 20)) 1 (nI 60)) 2 (nI 0)) 3 (nI 0)))), (q2, .inl (g.2.1, 8, .inl (fun _ => 0))), (q3, .inl (g.2.1, 8, .inl (fun _ => 0))), (q4, .inl (g.2.1, 8, .inl (fun _ => 0)))]) H := hP
  have hD : va_D A ([(a0, .inr (3, [.ref q1, .ref q2, .ref q3, .ref q4, .null, .int 0, .int 0, .int 0])), (q1, .inl (g.2.1, 4, .inl (upd (upd (upd (upd (fun _ => 0) 0 (nI 20)) 1 (nI 60)) 2 (nI 0)) 3 (nI 0)))), (q2, .inl (g.2.1, 8, .inl (fun _ => 0))), (q3, .inl (g.2.1, 8, .inl (fun _ => 0))), (q4, .inl (g.2.1, 8, .inl (fun _ => 0)))]) := hD
  refine lv_aload_n hx hb dX3_init_53 rfl (lv_at hl 0 rfl) ?_
  refine lv_bipush (v := nI 8) hx hb dX3_init_54 (by decide) ?_
  refine sp_newi (N' := 8) hx hb (hts _ (List.mem_of_getElem? (i := 4) rfl)) hK.1 hP hD hS hA (by decide) (by decide +kernel) (Nat.le_of_ble_eq_true rfl) (Nat.le_of_ble_eq_true rfl) (Nat.le_of_ble_eq_true rfl) dX3_init_56 (fun q5 H hP hD hS => ?_)
  have hP : va_P g.1 vwCl ([(a0, .inr (3, [.ref q1, .ref q2, .ref q3, .ref q4, .null, .int 0, .int 0, .int 0])), (q1, .inl (g.2.1, 4, .inl (upd (upd (upd (upd (fun _ => 0) 0 (nI 20)) 1 (nI 60)) 2 (nI 0)) 3 (nI 0)))), (q2, .inl (g.2.1, 8, .inl (fun _ => 0))), (q3, .inl (g.2.1, 8, .inl (fun _ => 0))), (q4, .inl (g.2.1, 8, .inl (fun _ => 0))), (q5, .inl (g.2.1, 8, .inl (fun _ => 0)))]) H := hP
  have hD : va_D A ([(a0, .inr (3, [.ref q1, .ref q2, .ref q3, .ref q4, .null, .int 0, .int 0, .int 0])), (q1, .inl (g.2.1, 4, .inl (upd (upd (upd (upd (fun _ => 0) 0 (nI 20)) 1 (nI 60)) 2 (nI 0)) 3 (nI 0)))), (q2, .inl (g.2.1, 8, .inl (fun _ => 0))), (q3, .inl (g.2.1, 8, .inl (fun _ => 0))), (q4, .inl (g.2.1, 8, .inl (fun _ => 0))), (q5, .inl (g.2.1, 8, .inl (fun _ => 0)))]) := hD
  refine W.widen (k := 5) (n := 36) (Nat.le_of_ble_eq_true rfl) (Nat.le_of_ble_eq_true rfl) ?_
  refine va_putF (D := g.1) (ci := 3) (v := .ref q5) (ty := .array .int) (C := RX3) (T := TX3) (N := 8) hx hb hts inX3 tyX3 tyX3_ok nmX3 hown hK.1.1 hP hD hS 0 rfl rfl 4 (by decide) (hts _ (List.mem_of_getElem? (i := 9) rfl)) (fun _ h9 => h9) rfl hin rfl (by decide +kernel) rfl rfl (Nat.le_of_ble_eq_true rfl) dX3_init_58 (fun H locs hP hD hS => ?_)
  have hP : va_P g.1 vwCl ([(a0, .inr (3, [.ref q1, .ref q2, .ref q3, .ref q4, .ref q5, .int 0, .int 0, .int 0])), (q1, .inl (g.2.1, 4, .inl (upd (upd (upd (upd (fun _ => 0) 0 (nI 20)) 1 (nI 60)) 2 (nI 0)) 3 (nI 0)))), (q2, .inl (g.2.1, 8, .inl (fun _ => 0))), (q3, .inl (g.2.1, 8, .inl (fun _ => 0))), (q4, .inl (g.2.1, 8, .inl (fun _ => 0))), (q5, .inl (g.2.1, 8, .inl (fun _ => 0)))]) H := hP
  have hD : va_D A ([(a0, .inr (3, [.ref q1, .ref q2, .ref q3, .ref q4, .ref q5, .int 0, .int 0, .int 0])), (q1, .inl (g.2.1, 4, .inl (upd (upd (upd (upd (fun _ => 0) 0 (nI 20)) 1 (nI 60)) 2 (nI 0)) 3 (nI 0)))), (q2, .inl (g.2.1, 8, .inl (fun _ => 0))), (q3, .inl (g.2.1, 8, .inl (fun _ => 0))), (q4, .inl (g.2.1, 8, .inl (fun _ => 0))), (q5, .inl (g.2.1, 8, .inl (fun _ => 0)))]) := hD
  refine lv_aload_n hx hb dX3_init_61 rfl (lv_at hl 0 rfl) ?_
  refine lv_iconst (v := nI 0) hx hb dX3_init_62 (by decide) ?_
  refine va_put (D := g.1) (ci := 3) (v := .int (nI 0)) (ty := .int) (C := RX3) (T := TX3) (N := 8) hx hb hts inX3 tyX3 tyX3_ok nmX3 hown hK.1.1 hP hD hS 0 rfl rfl 5 (by decide) (hts _ (List.mem_of_getElem? (i := 10) rfl)) (fun _ h9 => h9) rfl (by decide +kernel) rfl rfl (Nat.le_of_ble_eq_true rfl) dX3_init_63 (fun H locs hP hD hS => ?_)
  have hP : va_P g.1 vwCl ([(a0, .inr (3, [.ref q1, .ref q2, .ref q3, .ref q4, .ref q5, .int (nI 0), .int 0, .int 0])), (q1, .inl (g.2.1, 4, .inl (upd (upd (upd (upd (fun _ => 0) 0 (nI 20)) 1 (nI 60)) 2 (nI 0)) 3 (nI 0)))), (q2, .inl (g.2.1, 8, .inl (fun _ => 0))), (q3, .inl (g.2.1, 8, .inl (fun _ => 0))), (q4, .inl (g.2.1, 8, .inl (fun _ => 0))), (q5, .inl (g.2.1, 8, .inl (fun _ => 0)))]) H := hP
  have hD : va_D A ([(a0, .inr (3, [.ref q1, .ref q2, .ref q3, .ref q4, .ref q5, .int (nI 0), .int 0, .int 0])), (q1, .inl (g.2.1, 4, .inl (upd (upd (upd (upd (fun _ => 0) 0 (nI 20)) 1 (nI 60)) 2 (nI 0)) 3 (nI 0)))), (q2, .inl (g.2.1, 8, .inl (fun _ => 0))), (q3, .inl (g.2.1, 8, .inl (fun _ => 0))), (q4, .inl (g.2.1, 8, .inl (fun _ => 0))), (q5, .inl (g.2.1, 8, .inl (fun _ => 0)))]) := hD
  refine lv_aload_n hx hb dX3_init_66 rfl (lv_at hl 0 rfl) ?_
  refine lv_iconst (v := nI 0) hx hb dX3_init_67 (by decide) ?_
  refine va_put (D := g.1) (ci := 3) (v := .int (nI 0)) (ty := .int) (C := RX3) (T := TX3) (N := 8) hx hb hts inX3 tyX3 tyX3_ok nmX3 hown hK.1.1 hP hD hS 0 rfl rfl 6 (by decide) (hts _ (List.mem_of_getElem? (i := 11) rfl)) (fun _ h9 => h9) rfl (by decide +kernel) rfl rfl (Nat.le_of_ble_eq_true rfl) dX3_init_68 (fun H locs hP hD hS => ?_)
  have hP : va_P g.1 vwCl ([(a0, .inr (3, [.ref q1, .ref q2, .ref q3, .ref q4, .ref q5, .int (nI 0), .int (nI 0), .int 0])), (q1, .inl (g.2.1, 4, .inl (upd (upd (upd (upd (fun _ => 0) 0 (nI 20)) 1 (nI 60)) 2 (nI 0)) 3 (nI 0)))), (q2, .inl (g.2.1, 8, .inl (fun _ => 0))), (q3, .inl (g.2.1, 8, .inl (fun _ => 0))), (q4, .inl (g.2.1, 8, .inl (fun _ => 0))), (q5, .inl (g.2.1, 8, .inl (fun _ => 0)))]) H := hP
  have hD : va_D A ([(a0, .inr (3, [.ref q1, .ref q2, .ref q3, .ref q4, .ref q5, .int (nI 0), .int (nI 0), .int 0])), (q1, .inl (g.2.1, 4, .inl (upd (upd (upd (upd (fun _ => 0) 0 (nI 20)) 1 (nI 60)) 2 (nI 0)) 3 (nI 0)))), (q2, .inl (g.2.1, 8, .inl (fun _ => 0))), (q3, .inl (g.2.1, 8, .inl (fun _ => 0))), (q4, .inl (g.2.1, 8, .inl (fun _ => 0))), (q5, .inl (g.2.1, 8, .inl (fun _ => 0)))]) := hD
  refine lv_aload_n hx hb dX3_init_71 rfl (lv_at hl 0 rfl) ?_
  refine lv_iconst (v := nI 0) hx hb dX3_init_72 (by decide) ?_
  refine va_put (D := g.1) (ci := 3) (v := .int (nI 0)) (ty := .int) (C := RX3) (T := TX3) (N := 8) hx hb hts inX3 tyX3 tyX3_ok nmX3 hown hK.1.1 hP hD hS 0 rfl rfl 7 (by decide) (hts _ (List.mem_of_getElem? (i := 12) rfl)) (fun _ h9 => h9) rfl (by decide +kernel) rfl rfl (Nat.le_of_ble_eq_true rfl) dX3_init_73 (fun H locs hP hD hS => ?_)
  have hP : va_P g.1 vwCl ([(a0, .inr (3, [.ref q1, .ref q2, .ref q3, .ref q4, .ref q5, .int (nI 0), .int (nI 0), .int (nI 0)])), (q1, .inl (g.2.1, 4, .inl (upd (upd (upd (upd (fun _ => 0) 0 (nI 20)) 1 (nI 60)) 2 (nI 0)) 3 (nI 0)))), (q2, .inl (g.2.1, 8, .inl (fun _ => 0))), (q3, .inl (g.2.1, 8, .inl (fun _ => 0))), (q4, .inl (g.2.1, 8, .inl (fun _ => 0))), (q5, .inl (g.2.1, 8, .inl (fun _ => 0)))]) H := hP
  have hD : va_D A ([(a0, .inr (3, [.ref q1, .ref q2, .ref q3, .ref q4, .ref q5, .int (nI 0), .int (nI 0), .int (nI 0)])), (q1, .inl (g.2.1, 4, .inl (upd (upd (upd (upd (fun _ => 0) 0 (nI 20)) 1 (nI 60)) 2 (nI 0)) 3 (nI 0)))), (q2, .inl (g.2.1, 8, .inl (fun _ => 0))), (q3, .inl (g.2.1, 8, .inl (fun _ => 0))), (q4, .inl (g.2.1, 8, .inl (fun _ => 0))), (q5, .inl (g.2.1, 8, .inl (fun _ => 0)))]) := hD
  exact hend _ _ _ _ ((a0, q1, q2, q3, q4, q5), ((upd (upd (upd (upd (fun _ => 0) 0 (nI 20)) 1 (nI 60)) 2 (nI 0)) 3 (nI 0)), (fun _ => 0), (fun _ => 0), (fun _ => 0), (fun _ => 0), (nI 0), (nI 0), (nI 0))) dX3_init_76 (⟨rfl, ⟨rfl, rfl, rfl, rfl⟩, fun k hk => absurd hk (Nat.not_lt_zero k), fun k hk => absurd hk (Nat.not_lt_zero k), fun k hk => absurd hk (Nat.not_lt_zero k), rfl, rfl, rfl⟩) hP hD hS

set_option maxHeartbeats 4000000 in
set_option maxRecDepth 100000 in
theorem c_X0_init (l : Launch) (g : sp_G) (b0 : Nat) : sp_CM l g yX0_init wsX0_init ({ frames := 1, cells := 2, slots := 40, locals := 12 }) 2 40 [.ref b0] [(b0, .inr (0, [.null, .null, .int 0]))] (S := Nat × Nat) (fun _ => True) (fun u => bkW g (b0, u.1, u.2) ((fun _ => 0), (fun _ => 0), nI 0)) := by
  refine sp_CM.of (cc := cX0_init) (maxL := 1) (by decide) rfl (Nat.le_of_ble_eq_true rfl) ?_
  intro p e s m below meth c Q A ls SF hnm hK hP hD hA hl hend
  have hin : meth.name = "<init>" := hnm
  have hx := SF.1
  have hb := SF.2.1
  have hown : s.vm.findClass RX0 = some m.cls := SF.2.2.2.1
  have hts := SF.2.2.2.2
  have hS : va_S A s.heap s.heap [] := va_S.rf
  have inX0 : ∀ w ∈ wsX00, w ∈ wsX0_init := fun w h => List.mem_cons_of_mem _ (List.mem_append_right _ h)
  have hl : lv_has ls 1 [(0, .ref b0)] := hl
  refine lv_aload_n hx hb dX0_init_0 rfl (lv_at hl 0 rfl) ?_
  refine W.objInit hx hb hown (hts _ (List.mem_of_getElem? (i := 1) rfl)) (hts _ (List.mem_of_getElem? (i := 2) rfl)) (hts _ (List.mem_of_getElem? (i := 3) rfl)) rfl (hl.1.trans SF.2.2.1.symm) rfl dX0_init_1 (Nat.le_of_ble_eq_true rfl) (Nat.le_of_ble_eq_true rfl) ?_
  refine lv_aload_n hx hb dX0_init_4 rfl (lv_at hl 0 rfl) ?_
  refine lv_bipush (v := nI 20) hx hb dX0_init_5 (by decide) ?_
  refine sp_newi (N' := 20) hx hb (hts _ (List.mem_of_getElem? (i := 4) rfl)) hK.1 hP hD hS hA (by decide) (by decide +kernel) (Nat.le_of_ble_eq_true rfl) (Nat.le_of_ble_eq_true rfl) (Nat.le_of_ble_eq_true rfl) dX0_init_7 (fun q1 H hP hD hS => ?_)
  have hP : va_P g.1 vwCl ([(b0, .inr (0, [.null, .null, .int 0])), (q1, .inl (g.2.1, 20, .inl (fun _ => 0)))]) H := hP
  have hD : va_D A ([(b0, .inr (0, [.null, .null, .int 0])), (q1, .inl (g.2.1, 20, .inl (fun _ => 0)))]) := hD
  refine W.widen (k := 1) (n := 20) (Nat.le_of_ble_eq_true rfl) (Nat.le_of_ble_eq_true rfl) ?_
  refine va_putF (D := g.1) (ci := 0) (v := .ref q1) (ty := .array .int) (C := RX0) (T := TX0) (N := 3) hx hb hts inX0 tyX0 tyX0_ok nmX0 hown hK.1.1 hP hD hS 0 rfl rfl 0 (by decide) (hts _ (List.mem_of_getElem? (i := 5) rfl)) (fun _ h9 => h9) rfl hin rfl (by decide +kernel) rfl rfl (Nat.le_of_ble_eq_true rfl) dX0_init_9 (fun H locs hP hD hS => ?_)
  have hP : va_P g.1 vwCl ([(b0, .inr (0, [.ref q1, .null, .int 0])), (q1, .inl (g.2.1, 20, .inl (fun _ => 0)))]) H := hP
  have hD : va_D A ([(b0, .inr (0, [.ref q1, .null, .int 0])), (q1, .inl (g.2.1, 20, .inl (fun _ => 0)))]) := hD
  refine lv_aload_n hx hb dX0_init_12 rfl (lv_at hl 0 rfl) ?_
  refine lv_bipush (v := nI 20) hx hb dX0_init_13 (by decide) ?_
  refine sp_newi (N' := 20) hx hb (hts _ (List.mem_of_getElem? (i := 4) rfl)) hK.1 hP hD hS hA (by decide) (by decide +kernel) (Nat.le_of_ble_eq_true rfl) (Nat.le_of_ble_eq_true rfl) (Nat.le_of_ble_eq_true rfl) dX0_init_15 (fun q2 H hP hD hS => ?_)
  have hP : va_P g.1 vwCl ([(b0, .inr (0, [.ref q1, .null, .int 0])), (q1, .inl (g.2.1, 20, .inl (fun _ => 0))), (q2, .inl (g.2.1, 20, .inl (fun _ => 0)))]) H := hP
  have hD : va_D A ([(b0, .inr (0, [.ref q1, .null, .int 0])), (q1, .inl (g.2.1, 20, .inl (fun _ => 0))), (q2, .inl (g.2.1, 20, .inl (fun _ => 0)))]) := hD
  refine W.widen (k := 2) (n := 40) (Nat.le_of_ble_eq_true rfl) (Nat.le_of_ble_eq_true rfl) ?_
  refine va_putF (D := g.1) (ci := 0) (v := .ref q2) (ty := .array .int) (C := RX0) (T := TX0) (N := 3) hx hb hts inX0 tyX0 tyX0_ok nmX0 hown hK.1.1 hP hD hS 0 rfl rfl 1 (by decide) (hts _ (List.mem_of_getElem? (i := 6) rfl)) (fun _ h9 => h9) rfl hin rfl (by decide +kernel) rfl rfl (Nat.le_of_ble_eq_true rfl) dX0_init_17 (fun H locs hP hD hS => ?_)
  have hP : va_P g.1 vwCl ([(b0, .inr (0, [.ref q1, .ref q2, .int 0])), (q1, .inl (g.2.1, 20, .inl (fun _ => 0))), (q2, .inl (g.2.1, 20, .inl (fun _ => 0)))]) H := hP
  have hD : va_D A ([(b0, .inr (0, [.ref q1, .ref q2, .int 0])), (q1, .inl (g.2.1, 20, .inl (fun _ => 0))), (q2, .inl (g.2.1, 20, .inl (fun _ => 0)))]) := hD
  refine lv_aload_n hx hb dX0_init_20 rfl (lv_at hl 0 rfl) ?_
  refine lv_iconst (v := nI 0) hx hb dX0_init_21 (by decide) ?_
  refine va_put (D := g.1) (ci := 0) (v := .int (nI 0)) (ty := .int) (C := RX0) (T := TX0) (N := 3) hx hb hts inX0 tyX0 tyX0_ok nmX0 hown hK.1.1 hP hD hS 0 rfl rfl 2 (by decide) (hts _ (List.mem_of_getElem? (i := 7) rfl)) (fun _ h9 => h9) rfl (by decide +kernel) rfl rfl (Nat.le_of_ble_eq_true rfl) dX0_init_22 (fun H locs hP hD hS => ?_)
  have hP : va_P g.1 vwCl ([(b0, .inr (0, [.ref q1, .ref q2, .int (nI 0)])), (q1, .inl (g.2.1, 20, .inl (fun _ => 0))), (q2, .inl (g.2.1, 20, .inl (fun _ => 0)))]) H := hP
  have hD : va_D A ([(b0, .inr (0, [.ref q1, .ref q2, .int (nI 0)])), (q1, .inl (g.2.1, 20, .inl (fun _ => 0))), (q2, .inl (g.2.1, 20, .inl (fun _ => 0)))]) := hD
  exact hend _ _ _ _ (q1, q2) dX0_init_25 (trivial) hP hD hS

set_option maxHeartbeats 4000000 in
set_option maxRecDepth 100000 in
theorem c_X5_init (l : Launch) (g : sp_G) (b0 : Nat) : sp_CM l g yX5_init wsX5_init ({ frames := 1, cells := 8, slots := 964, locals := 12 }) 8 964 [.ref b0] [(b0, .inr (5, [.null, .null, .null, .int 0, .null, .null, .null, .long 0, .null, .int 0, .null]))] (S := sp_A9 × sp_V) (fun u => b0 = u.1.1 ∧ sp_M u.2 sp_x0) (fun u => mdW g u.1 u.2) := by
  refine sp_CM.of (cc := cX5_init) (maxL := 1) (by decide) rfl (Nat.le_of_ble_eq_true rfl) ?_
  intro p e s m below meth c Q A ls SF hnm hK hP hD hA hl hend
  have hin : meth.name = "<init>" := hnm
  have hx := SF.1
  have hb := SF.2.1
  have hown : s.vm.findClass RX5 = some m.cls := SF.2.2.2.1
  have hts := SF.2.2.2.2
  have hS : va_S A s.heap s.heap [] := va_S.rf
  have inX5 : ∀ w ∈ wsX50, w ∈ wsX5_init := fun w h => List.mem_cons_of_mem _ (List.mem_append_right _ h)
  have hl : lv_has ls 1 [(0, .ref b0)] := hl
  refine lv_aload_n hx hb dX5_init_0 rfl (lv_at hl 0 rfl) ?_
  refine W.objInit hx hb hown (hts _ (List.mem_of_getElem? (i := 1) rfl)) (hts _ (List.mem_of_getElem? (i := 2) rfl)) (hts _ (List.mem_of_getElem? (i := 3) rfl)) rfl (hl.1.trans SF.2.2.1.symm) rfl dX5_init_1 (Nat.le_of_ble_eq_true rfl) (Nat.le_of_ble_eq_true rfl) ?_
  refine lv_aload_n hx hb dX5_init_4 rfl (lv_at hl 0 rfl) ?_
  refine lv_bipush (v := nI 38) hx hb dX5_init_5 (by decide) ?_
  refine sp_newi (N' := 38) hx hb (hts _ (List.mem_of_getElem? (i := 4) rfl)) hK.1 hP hD hS hA (by decide) (by decide +kernel) (Nat.le_of_ble_eq_true rfl) (Nat.le_of_ble_eq_true rfl) (Nat.le_of_ble_eq_true rfl) dX5_init_7 (fun q1 H hP hD hS => ?_)
  have hP : va_P g.1 vwCl ([(b0, .inr (5, [.null, .null, .null, .int 0, .null, .null, .null, .long 0, .null, .int 0, .null])), (q1, .inl (g.2.1, 38, .inl (fun _ => 0)))]) H := hP
  have hD : va_D A ([(b0, .inr (5, [.null, .null, .null, .int 0, .null, .null, .null, .long 0, .null, .int 0, .null])), (q1, .inl (g.2.1, 38, .inl (fun _ => 0)))]) := hD
  refine W.widen (k := 1) (n := 38) (Nat.le_of_ble_eq_true rfl) (Nat.le_of_ble_eq_true rfl) ?_
  refine va_putF (D := g.1) (ci := 5) (v := .ref q1) (ty := .array .int) (C := RX5) (T := TX5) (N := 11) hx hb hts inX5 tyX5 tyX5_ok nmX5 hown hK.1.1 hP hD hS 0 rfl rfl 0 (by decide) (hts _ (List.mem_of_getElem? (i := 5) rfl)) (fun _ h9 => h9) rfl hin rfl (by decide +kernel) rfl rfl (Nat.le_of_ble_eq_true rfl) dX5_init_9 (fun H locs hP hD hS => ?_)
  have hP : va_P g.1 vwCl ([(b0, .inr (5, [.ref q1, .null, .null, .int 0, .null, .null, .null, .long 0, .null, .int 0, .null])), (q1, .inl (g.2.1, 38, .inl (fun _ => 0)))]) H := hP
  have hD : va_D A ([(b0, .inr (5, [.ref q1, .null, .null, .int 0, .null, .null, .null, .long 0, .null, .int 0, .null])), (q1, .inl (g.2.1, 38, .inl (fun _ => 0)))]) := hD
  refine lv_aload_n hx hb dX5_init_12 rfl (lv_at hl 0 rfl) ?_
  refine lv_bipush (v := nI 38) hx hb dX5_init_13 (by decide) ?_
  refine sp_newi (N' := 38) hx hb (hts _ (List.mem_of_getElem? (i := 4) rfl)) hK.1 hP hD hS hA (by decide) (by decide +kernel) (Nat.le_of_ble_eq_true rfl) (Nat.le_of_ble_eq_true rfl) (Nat.le_of_ble_eq_true rfl) dX5_init_15 (fun q2 H hP hD hS => ?_)
  have hP : va_P g.1 vwCl ([(b0, .inr (5, [.ref q1, .null, .null, .int 0, .null, .null, .null, .long 0, .null, .int 0, .null])), (q1, .inl (g.2.1, 38, .inl (fun _ => 0))), (q2, .inl (g.2.1, 38, .inl (fun _ => 0)))]) H := hP
  have hD : va_D A ([(b0, .inr (5, [.ref q1, .null, .null, .int 0, .null, .null, .null, .long 0, .null, .int 0, .null])), (q1, .inl (g.2.1, 38, .inl (fun _ => 0))), (q2, .inl (g.2.1, 38, .inl (fun _ => 0)))]) := hD
  refine W.widen (k := 2) (n := 76) (Nat.le_of_ble_eq_true rfl) (Nat.le_of_ble_eq_true rfl) ?_
  refine va_putF (D := g.1) (ci := 5) (v := .ref q2) (ty := .array .int) (C := RX5) (T := TX5) (N := 11) hx hb hts inX5 tyX5 tyX5_ok nmX5 hown hK.1.1 hP hD hS 0 rfl rfl 1 (by decide) (hts _ (List.mem_of_getElem? (i := 6) rfl)) (fun _ h9 => h9) rfl hin rfl (by decide +kernel) rfl rfl (Nat.le_of_ble_eq_true rfl) dX5_init_17 (fun H locs hP hD hS => ?_)
  have hP : va_P g.1 vwCl ([(b0, .inr (5, [.ref q1, .ref q2, .null, .int 0, .null, .null, .null, .long 0, .null, .int 0, .null])), (q1, .inl (g.2.1, 38, .inl (fun _ => 0))), (q2, .inl (g.2.1, 38, .inl (fun _ => 0)))]) H := hP
  have hD : va_D A ([(b0, .inr (5, [.ref q1, .ref q2, .null, .int 0, .null, .null, .null, .long 0, .null, .int 0, .null])), (q1, .inl (g.2.1, 38, .inl (fun _ => 0))), (q2, .inl (g.2.1, 38, .inl (fun _ => 0)))]) := hD
  refine lv_aload_n hx hb dX5_init_20 rfl (lv_at hl 0 rfl) ?_
  refine lv_sipush (v := nI 760) hx hb dX5_init_21 (by decide) ?_
  refine sp_newi (N' := 760) hx hb (hts _ (List.mem_of_getElem? (i := 4) rfl)) hK.1 hP hD hS hA (by decide) (by decide +kernel) (Nat.le_of_ble_eq_true rfl) (Nat.le_of_ble_eq_true rfl) (Nat.le_of_ble_eq_true rfl) dX5_init_24 (fun q3 H hP hD hS => ?_)
  have hP : va_P g.1 vwCl ([(b0, .inr (5, [.ref q1, .ref q2, .null, .int 0, .null, .null, .null, .long 0, .null, .int 0, .null])), (q1, .inl (g.2.1, 38, .inl (fun _ => 0))), (q2, .inl (g.2.1, 38, .inl (fun _ => 0))), (q3, .inl (g.2.1, 760, .inl (fun _ => 0)))]) H := hP
  have hD : va_D A ([(b0, .inr (5, [.ref q1, .ref q2, .null, .int 0, .null, .null, .null, .long 0, .null, .int 0, .null])), (q1, .inl (g.2.1, 38, .inl (fun _ => 0))), (q2, .inl (g.2.1, 38, .inl (fun _ => 0))), (q3, .inl (g.2.1, 760, .inl (fun _ => 0)))]) := hD
  refine W.widen (k := 3) (n := 836) (Nat.le_of_ble_eq_true rfl) (Nat.le_of_ble_eq_true rfl) ?_
  refine va_putF (D := g.1) (ci := 5) (v := .ref q3) (ty := .array .int) (C := RX5) (T := TX5) (N := 11) hx hb hts inX5 tyX5 tyX5_ok nmX5 hown hK.1.1 hP hD hS 0 rfl rfl 2 (by decide) (hts _ (List.mem_of_getElem? (i := 7) rfl)) (fun _ h9 => h9) rfl hin rfl (by decide +kernel) rfl rfl (Nat.le_of_ble_eq_true rfl) dX5_init_26 (fun H locs hP hD hS => ?_)
  have hP : va_P g.1 vwCl ([(b0, .inr (5, [.ref q1, .ref q2, .ref q3, .int 0, .null, .null, .null, .long 0, .null, .int 0, .null])), (q1, .inl (g.2.1, 38, .inl (fun _ => 0))), (q2, .inl (g.2.1, 38, .inl (fun _ => 0))), (q3, .inl (g.2.1, 760, .inl (fun _ => 0)))]) H := hP
  have hD : va_D A ([(b0, .inr (5, [.ref q1, .ref q2, .ref q3, .int 0, .null, .null, .null, .long 0, .null, .int 0, .null])), (q1, .inl (g.2.1, 38, .inl (fun _ => 0))), (q2, .inl (g.2.1, 38, .inl (fun _ => 0))), (q3, .inl (g.2.1, 760, .inl (fun _ => 0)))]) := hD
  refine lv_aload_n hx hb dX5_init_29 rfl (lv_at hl 0 rfl) ?_
  refine lv_bipush (v := nI 76) hx hb dX5_init_30 (by decide) ?_
  refine sp_newi (N' := 76) hx hb (hts _ (List.mem_of_getElem? (i := 4) rfl)) hK.1 hP hD hS hA (by decide) (by decide +kernel) (Nat.le_of_ble_eq_true rfl) (Nat.le_of_ble_eq_true rfl) (Nat.le_of_ble_eq_true rfl) dX5_init_32 (fun q4 H hP hD hS => ?_)
  have hP : va_P g.1 vwCl ([(b0, .inr (5, [.ref q1, .ref q2, .ref q3, .int 0, .null, .null, .null, .long 0, .null, .int 0, .null])), (q1, .inl (g.2.1, 38, .inl (fun _ => 0))), (q2, .inl (g.2.1, 38, .inl (fun _ => 0))), (q3, .inl (g.2.1, 760, .inl (fun _ => 0))), (q4, .inl (g.2.1, 76, .inl (fun _ => 0)))]) H := hP
  have hD : va_D A ([(b0, .inr (5, [.ref q1, .ref q2, .ref q3, .int 0, .null, .null, .null, .long 0, .null, .int 0, .null])), (q1, .inl (g.2.1, 38, .inl (fun _ => 0))), (q2, .inl (g.2.1, 38, .inl (fun _ => 0))), (q3, .inl (g.2.1, 760, .inl (fun _ => 0))), (q4, .inl (g.2.1, 76, .inl (fun _ => 0)))]) := hD
  refine W.widen (k := 4) (n := 912) (Nat.le_of_ble_eq_true rfl) (Nat.le_of_ble_eq_true rfl) ?_
  refine va_putF (D := g.1) (ci := 5) (v := .ref q4) (ty := .array .int) (C := RX5) (T := TX5) (N := 11) hx hb hts inX5 tyX5 tyX5_ok nmX5 hown hK.1.1 hP hD hS 0 rfl rfl 4 (by decide) (hts _ (List.mem_of_getElem? (i := 8) rfl)) (fun _ h9 => h9) rfl hin rfl (by decide +kernel) rfl rfl (Nat.le_of_ble_eq_true rfl) dX5_init_34 (fun H locs hP hD hS => ?_)
  have hP : va_P g.1 vwCl ([(b0, .inr (5, [.ref q1, .ref q2, .ref q3, .int 0, .ref q4, .null, .null, .long 0, .null, .int 0, .null])), (q1, .inl (g.2.1, 38, .inl (fun _ => 0))), (q2, .inl (g.2.1, 38, .inl (fun _ => 0))), (q3, .inl (g.2.1, 760, .inl (fun _ => 0))), (q4, .inl (g.2.1, 76, .inl (fun _ => 0)))]) H := hP
  have hD : va_D A ([(b0, .inr (5, [.ref q1, .ref q2, .ref q3, .int 0, .ref q4, .null, .null, .long 0, .null, .int 0, .null])), (q1, .inl (g.2.1, 38, .inl (fun _ => 0))), (q2, .inl (g.2.1, 38, .inl (fun _ => 0))), (q3, .inl (g.2.1, 760, .inl (fun _ => 0))), (q4, .inl (g.2.1, 76, .inl (fun _ => 0)))]) := hD
  refine lv_aload_n hx hb dX5_init_37 rfl (lv_at hl 0 rfl) ?_
  refine lv_iconst (v := nI 2) hx hb dX5_init_38 (by decide) ?_
  refine sp_newl (N' := 2) hx hb (hts _ (List.mem_of_getElem? (i := 9) rfl)) hK.1 hP hD hS hA (by decide) (by decide +kernel) (Nat.le_of_ble_eq_true rfl) (Nat.le_of_ble_eq_true rfl) (Nat.le_of_ble_eq_true rfl) dX5_init_39 (fun q5 H hP hD hS => ?_)
  have hP : va_P g.1 vwCl ([(b0, .inr (5, [.ref q1, .ref q2, .ref q3, .int 0, .ref q4, .null, .null, .long 0, .null, .int 0, .null])), (q1, .inl (g.2.1, 38, .inl (fun _ => 0))), (q2, .inl (g.2.1, 38, .inl (fun _ => 0))), (q3, .inl (g.2.1, 760, .inl (fun _ => 0))), (q4, .inl (g.2.1, 76, .inl (fun _ => 0))), (q5, .inl (g.2.2.1, 2, .inr (.inl (fun _ => 0))))]) H := hP
  have hD : va_D A ([(b0, .inr (5, [.ref q1, .ref q2, .ref q3, .int 0, .ref q4, .null, .null, .long 0, .null, .int 0, .null])), (q1, .inl (g.2.1, 38, .inl (fun _ => 0))), (q2, .inl (g.2.1, 38, .inl (fun _ => 0))), (q3, .inl (g.2.1, 760, .inl (fun _ => 0))), (q4, .inl (g.2.1, 76, .inl (fun _ => 0))), (q5, .inl (g.2.2.1, 2, .inr (.inl (fun _ => 0))))]) := hD
  refine W.widen (k := 5) (n := 914) (Nat.le_of_ble_eq_true rfl) (Nat.le_of_ble_eq_true rfl) ?_
  refine va_putF (D := g.1) (ci := 5) (v := .ref q5) (ty := .array .long) (C := RX5) (T := TX5) (N := 11) hx hb hts inX5 tyX5 tyX5_ok nmX5 hown hK.1.1 hP hD hS 0 rfl rfl 5 (by decide) (hts _ (List.mem_of_getElem? (i := 10) rfl)) (fun _ h9 => h9) rfl hin rfl (by decide +kernel) rfl rfl (Nat.le_of_ble_eq_true rfl) dX5_init_41 (fun H locs hP hD hS => ?_)
  have hP : va_P g.1 vwCl ([(b0, .inr (5, [.ref q1, .ref q2, .ref q3, .int 0, .ref q4, .ref q5, .null, .long 0, .null, .int 0, .null])), (q1, .inl (g.2.1, 38, .inl (fun _ => 0))), (q2, .inl (g.2.1, 38, .inl (fun _ => 0))), (q3, .inl (g.2.1, 760, .inl (fun _ => 0))), (q4, .inl (g.2.1, 76, .inl (fun _ => 0))), (q5, .inl (g.2.2.1, 2, .inr (.inl (fun _ => 0))))]) H := hP
  have hD : va_D A ([(b0, .inr (5, [.ref q1, .ref q2, .ref q3, .int 0, .ref q4, .ref q5, .null, .long 0, .null, .int 0, .null])), (q1, .inl (g.2.1, 38, .inl (fun _ => 0))), (q2, .inl (g.2.1, 38, .inl (fun _ => 0))), (q3, .inl (g.2.1, 760, .inl (fun _ => 0))), (q4, .inl (g.2.1, 76, .inl (fun _ => 0))), (q5, .inl (g.2.2.1, 2, .inr (.inl (fun _ => 0))))]) := hD
  refine lv_aload_n hx hb dX5_init_44 rfl (lv_at hl 0 rfl) ?_
  refine lv_iconst (v := nI 2) hx hb dX5_init_45 (by decide) ?_
  refine sp_newz (N' := 2) hx hb (hts _ (List.mem_of_getElem? (i := 11) rfl)) hK.1 hP hD hS hA (by decide) (by decide +kernel) (Nat.le_of_ble_eq_true rfl) (Nat.le_of_ble_eq_true rfl) (Nat.le_of_ble_eq_true rfl) dX5_init_46 (fun q6 H hP hD hS => ?_)
  have hP : va_P g.1 vwCl ([(b0, .inr (5, [.ref q1, .ref q2, .ref q3, .int 0, .ref q4, .ref q5, .null, .long 0, .null, .int 0, .null])), (q1, .inl (g.2.1, 38, .inl (fun _ => 0))), (q2, .inl (g.2.1, 38, .inl (fun _ => 0))), (q3, .inl (g.2.1, 760, .inl (fun _ => 0))), (q4, .inl (g.2.1, 76, .inl (fun _ => 0))), (q5, .inl (g.2.2.1, 2, .inr (.inl (fun _ => 0)))), (q6, .inl (g.2.2.2.1, 2, .inl (fun _ => 0)))]) H := hP
  have hD : va_D A ([(b0, .inr (5, [.ref q1, .ref q2, .ref q3, .int 0, .ref q4, .ref q5, .null, .long 0, .null, .int 0, .null])), (q1, .inl (g.2.1, 38, .inl (fun _ => 0))), (q2, .inl (g.2.1, 38, .inl (fun _ => 0))), (q3, .inl (g.2.1, 760, .inl (fun _ => 0))), (q4, .inl (g.2.1, 76, .inl (fun _ => 0))), (q5, .inl (g.2.2.1, 2, .inr (.inl (fun _ => 0)))), (q6, .inl (g.2.2.2.1, 2, .inl (fun _ => 0)))]) := hD
  refine W.widen (k := 6) (n := 916) (Nat.le_of_ble_eq_true rfl) (Nat.le_of_ble_eq_true rfl) ?_
  refine va_putF (D := g.1) (ci := 5) (v := .ref q6) (ty := .array .boolean) (C := RX5) (T := TX5) (N := 11) hx hb hts inX5 tyX5 tyX5_ok nmX5 hown hK.1.1 hP hD hS 0 rfl rfl 6 (by decide) (hts _ (List.mem_of_getElem? (i := 12) rfl)) (fun _ h9 => h9) rfl hin rfl (by decide +kernel) rfl rfl (Nat.le_of_ble_eq_true rfl) dX5_init_48 (fun H locs hP hD hS => ?_)
  have hP : va_P g.1 vwCl ([(b0, .inr (5, [.ref q1, .ref q2, .ref q3, .int 0, .ref q4, .ref q5, .ref q6, .long 0, .null, .int 0, .null])), (q1, .inl (g.2.1, 38, .inl (fun _ => 0))), (q2, .inl (g.2.1, 38, .inl (fun _ => 0))), (q3, .inl (g.2.1, 760, .inl (fun _ => 0))), (q4, .inl (g.2.1, 76, .inl (fun _ => 0))), (q5, .inl (g.2.2.1, 2, .inr (.inl (fun _ => 0)))), (q6, .inl (g.2.2.2.1, 2, .inl (fun _ => 0)))]) H := hP
  have hD : va_D A ([(b0, .inr (5, [.ref q1, .ref q2, .ref q3, .int 0, .ref q4, .ref q5, .ref q6, .long 0, .null, .int 0, .null])), (q1, .inl (g.2.1, 38, .inl (fun _ => 0))), (q2, .inl (g.2.1, 38, .inl (fun _ => 0))), (q3, .inl (g.2.1, 760, .inl (fun _ => 0))), (q4, .inl (g.2.1, 76, .inl (fun _ => 0))), (q5, .inl (g.2.2.1, 2, .inr (.inl (fun _ => 0)))), (q6, .inl (g.2.2.2.1, 2, .inl (fun _ => 0)))]) := hD
  refine lv_aload_n hx hb dX5_init_51 rfl (lv_at hl 0 rfl) ?_
  refine lv_bipush (v := nI 40) hx hb dX5_init_52 (by decide) ?_
  refine sp_newi (N' := 40) hx hb (hts _ (List.mem_of_getElem? (i := 4) rfl)) hK.1 hP hD hS hA (by decide) (by decide +kernel) (Nat.le_of_ble_eq_true rfl) (Nat.le_of_ble_eq_true rfl) (Nat.le_of_ble_eq_true rfl) dX5_init_54 (fun q7 H hP hD hS => ?_)
  have hP : va_P g.1 vwCl ([(b0, .inr (5, [.ref q1, .ref q2, .ref q3, .int 0, .ref q4, .ref q5, .ref q6, .long 0, .null, .int 0, .null])), (q1, .inl (g.2.1, 38, .inl (fun _ => 0))), (q2, .inl (g.2.1, 38, .inl (fun _ => 0))), (q3, .inl (g.2.1, 760, .inl (fun _ => 0))), (q4, .inl (g.2.1, 76, .inl (fun _ => 0))), (q5, .inl (g.2.2.1, 2, .inr (.inl (fun _ => 0)))), (q6, .inl (g.2.2.2.1, 2, .inl (fun _ => 0))), (q7, .inl (g.2.1, 40, .inl (fun _ => 0)))]) H := hP
  have hD : va_D A ([(b0, .inr (5, [.ref q1, .ref q2, .ref q3, .int 0, .ref q4, .ref q5, .ref q6, .long 0, .null, .int 0, .null])), (q1, .inl (g.2.1, 38, .inl (fun _ => 0))), (q2, .inl (g.2.1, 38, .inl (fun _ => 0))), (q3, .inl (g.2.1, 760, .inl (fun _ => 0))), (q4, .inl (g.2.1, 76, .inl (fun _ => 0))), (q5, .inl (g.2.2.1, 2, .inr (.inl (fun _ => 0)))), (q6, .inl (g.2.2.2.1, 2, .inl (fun _ => 0))), (q7, .inl (g.2.1, 40, .inl (fun _ => 0)))]) := hD
  refine W.widen (k := 7) (n := 956) (Nat.le_of_ble_eq_true rfl) (Nat.le_of_ble_eq_true rfl) ?_
  refine va_putF (D := g.1) (ci := 5) (v := .ref q7) (ty := .array .int) (C := RX5) (T := TX5) (N := 11) hx hb hts inX5 tyX5 tyX5_ok nmX5 hown hK.1.1 hP hD hS 0 rfl rfl 8 (by decide) (hts _ (List.mem_of_getElem? (i := 13) rfl)) (fun _ h9 => h9) rfl hin rfl (by decide +kernel) rfl rfl (Nat.le_of_ble_eq_true rfl) dX5_init_56 (fun H locs hP hD hS => ?_)
  have hP : va_P g.1 vwCl ([(b0, .inr (5, [.ref q1, .ref q2, .ref q3, .int 0, .ref q4, .ref q5, .ref q6, .long 0, .ref q7, .int 0, .null])), (q1, .inl (g.2.1, 38, .inl (fun _ => 0))), (q2, .inl (g.2.1, 38, .inl (fun _ => 0))), (q3, .inl (g.2.1, 760, .inl (fun _ => 0))), (q4, .inl (g.2.1, 76, .inl (fun _ => 0))), (q5, .inl (g.2.2.1, 2, .inr (.inl (fun _ => 0)))), (q6, .inl (g.2.2.2.1, 2, .inl (fun _ => 0))), (q7, .inl (g.2.1, 40, .inl (fun _ => 0)))]) H := hP
  have hD : va_D A ([(b0, .inr (5, [.ref q1, .ref q2, .ref q3, .int 0, .ref q4, .ref q5, .ref q6, .long 0, .ref q7, .int 0, .null])), (q1, .inl (g.2.1, 38, .inl (fun _ => 0))), (q2, .inl (g.2.1, 38, .inl (fun _ => 0))), (q3, .inl (g.2.1, 760, .inl (fun _ => 0))), (q4, .inl (g.2.1, 76, .inl (fun _ => 0))), (q5, .inl (g.2.2.1, 2, .inr (.inl (fun _ => 0)))), (q6, .inl (g.2.2.2.1, 2, .inl (fun _ => 0))), (q7, .inl (g.2.1, 40, .inl (fun _ => 0)))]) := hD
  refine lv_aload_n hx hb dX5_init_59 rfl (lv_at hl 0 rfl) ?_
  refine lv_bipush (v := nI 8) hx hb dX5_init_60 (by decide) ?_
  refine sp_newi (N' := 8) hx hb (hts _ (List.mem_of_getElem? (i := 4) rfl)) hK.1 hP hD hS hA (by decide) (by decide +kernel) (Nat.le_of_ble_eq_true rfl) (Nat.le_of_ble_eq_true rfl) (Nat.le_of_ble_eq_true rfl) dX5_init_62 (fun q8 H hP hD hS => ?_)
  have hP : va_P g.1 vwCl ([(b0, .inr (5, [.ref q1, .ref q2, .ref q3, .int 0, .ref q4, .ref q5, .ref q6, .long 0, .ref q7, .int 0, .null])), (q1, .inl (g.2.1, 38, .inl (fun _ => 0))), (q2, .inl (g.2.1, 38, .inl (fun _ => 0))), (q3, .inl (g.2.1, 760, .inl (fun _ => 0))), (q4, .inl (g.2.1, 76, .inl (fun _ => 0))), (q5, .inl (g.2.2.1, 2, .inr (.inl (fun _ => 0)))), (q6, .inl (g.2.2.2.1, 2, .inl (fun _ => 0))), (q7, .inl (g.2.1, 40, .inl (fun _ => 0))), (q8, .inl (g.2.1, 8, .inl (fun _ => 0)))]) H := hP
  have hD : va_D A ([(b0, .inr (5, [.ref q1, .ref q2, .ref q3, .int 0, .ref q4, .ref q5, .ref q6, .long 0, .ref q7, .int 0, .null])), (q1, .inl (g.2.1, 38, .inl (fun _ => 0))), (q2, .inl (g.2.1, 38, .inl (fun _ => 0))), (q3, .inl (g.2.1, 760, .inl (fun _ => 0))), (q4, .inl (g.2.1, 76, .inl (fun _ => 0))), (q5, .inl (g.2.2.1, 2, .inr (.inl (fun _ => 0)))), (q6, .inl (g.2.2.2.1, 2, .inl (fun _ => 0))), (q7, .inl (g.2.1, 40, .inl (fun _ => 0))), (q8, .inl (g.2.1, 8, .inl (fun _ => 0)))]) := hD
  refine W.widen (k := 8) (n := 964) (Nat.le_of_ble_eq_true rfl) (Nat.le_of_ble_eq_true rfl) ?_
  refine va_putF (D := g.1) (ci := 5) (v := .ref q8) (ty := .array .int) (C := RX5) (T := TX5) (N := 11) hx hb hts inX5 tyX5 tyX5_ok nmX5 hown hK.1.1 hP hD hS 0 rfl rfl 10 (by decide) (hts _ (List.mem_of_getElem? (i := 14) rfl)) (fun _ h9 => h9) rfl hin rfl (by decide +kernel) rfl rfl (Nat.le_of_ble_eq_true rfl) dX5_init_64 (fun H locs hP hD hS => ?_)
  have hP : va_P g.1 vwCl ([(b0, .inr (5, [.ref q1, .ref q2, .ref q3, .int 0, .ref q4, .ref q5, .ref q6, .long 0, .ref q7, .int 0, .ref q8])), (q1, .inl (g.2.1, 38, .inl (fun _ => 0))), (q2, .inl (g.2.1, 38, .inl (fun _ => 0))), (q3, .inl (g.2.1, 760, .inl (fun _ => 0))), (q4, .inl (g.2.1, 76, .inl (fun _ => 0))), (q5, .inl (g.2.2.1, 2, .inr (.inl (fun _ => 0)))), (q6, .inl (g.2.2.2.1, 2, .inl (fun _ => 0))), (q7, .inl (g.2.1, 40, .inl (fun _ => 0))), (q8, .inl (g.2.1, 8, .inl (fun _ => 0)))]) H := hP
  have hD : va_D A ([(b0, .inr (5, [.ref q1, .ref q2, .ref q3, .int 0, .ref q4, .ref q5, .ref q6, .long 0, .ref q7, .int 0, .ref q8])), (q1, .inl (g.2.1, 38, .inl (fun _ => 0))), (q2, .inl (g.2.1, 38, .inl (fun _ => 0))), (q3, .inl (g.2.1, 760, .inl (fun _ => 0))), (q4, .inl (g.2.1, 76, .inl (fun _ => 0))), (q5, .inl (g.2.2.1, 2, .inr (.inl (fun _ => 0)))), (q6, .inl (g.2.2.2.1, 2, .inl (fun _ => 0))), (q7, .inl (g.2.1, 40, .inl (fun _ => 0))), (q8, .inl (g.2.1, 8, .inl (fun _ => 0)))]) := hD
  refine lv_aload_n hx hb dX5_init_67 rfl (lv_at hl 0 rfl) ?_
  refine va_get (D := g.1) (ci := 5) (v := .ref q1) (C := RX5) (T := TX5) (N := 11) hx hb hts inX5 hown hK.1.1 hP 0 rfl rfl 0 (by decide) (hts _ (List.mem_of_getElem? (i := 5) rfl)) (fun _ h9 => h9) rfl dX5_init_68 ?_
  refine lv_iconst (v := nI 2) hx hb dX5_init_71 (by decide) ?_
  refine lv_bipush (v := nI 20) hx hb dX5_init_72 (by decide) ?_
  refine va_iast hx hb hK.1.1 hP hD hS 1 0 rfl rfl (vp_in_nI (by omega) (by omega)) dX5_init_74 (fun H locs hP hD hS => ?_)
  rw [sp_c8 (k := 2) (by omega)] at hP hD
  have hP : va_P g.1 vwCl ([(b0, .inr (5, [.ref q1, .ref q2, .ref q3, .int 0, .ref q4, .ref q5, .ref q6, .long 0, .ref q7, .int 0, .ref q8])), (q1, .inl (g.2.1, 38, .inl (upd (fun _ => 0) 2 (nI 20)))), (q2, .inl (g.2.1, 38, .inl (fun _ => 0))), (q3, .inl (g.2.1, 760, .inl (fun _ => 0))), (q4, .inl (g.2.1, 76, .inl (fun _ => 0))), (q5, .inl (g.2.2.1, 2, .inr (.inl (fun _ => 0)))), (q6, .inl (g.2.2.2.1, 2, .inl (fun _ => 0))), (q7, .inl (g.2.1, 40, .inl (fun _ => 0))), (q8, .inl (g.2.1, 8, .inl (fun _ => 0)))]) H := hP
  have hD : va_D A ([(b0, .inr (5, [.ref q1, .ref q2, .ref q3, .int 0, .ref q4, .ref q5, .ref q6, .long 0, .ref q7, .int 0, .ref q8])), (q1, .inl (g.2.1, 38, .inl (upd (fun _ => 0) 2 (nI 20)))), (q2, .inl (g.2.1, 38, .inl (fun _ => 0))), (q3, .inl (g.2.1, 760, .inl (fun _ => 0))), (q4, .inl (g.2.1, 76, .inl (fun _ => 0))), (q5, .inl (g.2.2.1, 2, .inr (.inl (fun _ => 0)))), (q6, .inl (g.2.2.2.1, 2, .inl (fun _ => 0))), (q7, .inl (g.2.1, 40, .inl (fun _ => 0))), (q8, .inl (g.2.1, 8, .inl (fun _ => 0)))]) := hD
  refine lv_aload_n hx hb dX5_init_75 rfl (lv_at hl 0 rfl) ?_
  refine va_get (D := g.1) (ci := 5) (v := .ref q1) (C := RX5) (T := TX5) (N := 11) hx hb hts inX5 hown hK.1.1 hP 0 rfl rfl 0 (by decide) (hts _ (List.mem_of_getElem? (i := 5) rfl)) (fun _ h9 => h9) rfl dX5_init_76 ?_
  refine lv_iconst (v := nI 3) hx hb dX5_init_79 (by decide) ?_
  refine lv_bipush (v := nI 60) hx hb dX5_init_80 (by decide) ?_
  refine va_iast hx hb hK.1.1 hP hD hS 1 0 rfl rfl (vp_in_nI (by omega) (by omega)) dX5_init_82 (fun H locs hP hD hS => ?_)
  rw [sp_c8 (k := 3) (by omega)] at hP hD
  have hP : va_P g.1 vwCl ([(b0, .inr (5, [.ref q1, .ref q2, .ref q3, .int 0, .ref q4, .ref q5, .ref q6, .long 0, .ref q7, .int 0, .ref q8])), (q1, .inl (g.2.1, 38, .inl (upd (upd (fun _ => 0) 2 (nI 20)) 3 (nI 60)))), (q2, .inl (g.2.1, 38, .inl (fun _ => 0))), (q3, .inl (g.2.1, 760, .inl (fun _ => 0))), (q4, .inl (g.2.1, 76, .inl (fun _ => 0))), (q5, .inl (g.2.2.1, 2, .inr (.inl (fun _ => 0)))), (q6, .inl (g.2.2.2.1, 2, .inl (fun _ => 0))), (q7, .inl (g.2.1, 40, .inl (fun _ => 0))), (q8, .inl (g.2.1, 8, .inl (fun _ => 0)))]) H := hP
  have hD : va_D A ([(b0, .inr (5, [.ref q1, .ref q2, .ref q3, .int 0, .ref q4, .ref q5, .ref q6, .long 0, .ref q7, .int 0, .ref q8])), (q1, .inl (g.2.1, 38, .inl (upd (upd (fun _ => 0) 2 (nI 20)) 3 (nI 60)))), (q2, .inl (g.2.1, 38, .inl (fun _ => 0))), (q3, .inl (g.2.1, 760, .inl (fun _ => 0))), (q4, .inl (g.2.1, 76, .inl (fun _ => 0))), (q5, .inl (g.2.2.1, 2, .inr (.inl (fun _ => 0)))), (q6, .inl (g.2.2.2.1, 2, .inl (fun _ => 0))), (q7, .inl (g.2.1, 40, .inl (fun _ => 0))), (q8, .inl (g.2.1, 8, .inl (fun _ => 0)))]) := hD
  exact hend _ _ _ _ ((b0, q1, q2, q3, q4, q5, q6, q7, q8), ((upd (upd (fun _ => 0) 2 (nI 20)) 3 (nI 60)), (fun _ => 0), (fun _ => 0), 0, (fun _ => 0), (fun _ => 0), (fun _ => 0), 0, (fun _ => 0), 0, (fun _ => 0))) dX5_init_83 (⟨rfl, sp_M_x0⟩) hP hD hS

set_option maxHeartbeats 4000000 in
set_option maxRecDepth 100000 in
theorem c_X1_init (l : Launch) (g : sp_G) (i0 : Nat) : sp_CM l g yX1_init wsX1_init ({ frames := 2, cells := 6, slots := 44, locals := 32 }) 6 44 [.ref i0] [(i0, .inr (1, [.null, .int 0, .int 0]))] (S := sp_A × sp_U) (fun _ => True) (fun u => ioW i0 u.1.1 (nI 0) (nI 0) ++ twW g u.1 u.2) := by
  refine sp_CM.of (cc := cX1_init) (maxL := 1) (by decide) rfl (Nat.le_of_ble_eq_true rfl) ?_
  intro p e s m below meth c Q A ls SF hnm hK hP hD hA hl hend
  have hin : meth.name = "<init>" := hnm
  have hx := SF.1
  have hb := SF.2.1
  have hown : s.vm.findClass RX1 = some m.cls := SF.2.2.2.1
  have hts := SF.2.2.2.2
  have hS : va_S A s.heap s.heap [] := va_S.rf
  have inX3 : ∀ w ∈ wsX30, w ∈ wsX1_init := fun w h => List.mem_cons_of_mem _ (List.mem_append_left _ (List.mem_append_right _ h))
  have inX1 : ∀ w ∈ wsX10, w ∈ wsX1_init := fun w h => List.mem_cons_of_mem _ (List.mem_append_right _ h)
  have hl : lv_has ls 1 [(0, .ref i0)] := hl
  refine lv_aload_n hx hb dX1_init_0 rfl (lv_at hl 0 rfl) ?_
  refine W.objInit hx hb hown (hts _ (List.mem_of_getElem? (i := 1) rfl)) (hts _ (List.mem_of_getElem? (i := 2) rfl)) (hts _ (List.mem_of_getElem? (i := 3) rfl)) rfl (hl.1.trans SF.2.2.1.symm) rfl dX1_init_1 (Nat.le_of_ble_eq_true rfl) (Nat.le_of_ble_eq_true rfl) ?_
  refine lv_aload_n hx hb dX1_init_4 rfl (lv_at hl 0 rfl) ?_
  refine va_new (ci := 3) (fs := [.null, .null, .null, .null, .null, .int 0, .int 0, .int 0]) (C := RX3) (T := TX3) (N := 8) hx hb hts inX3 tyX3 tyX3_ok hown (hts _ (List.mem_of_getElem? (i := 4) rfl)) (hts _ (List.mem_of_getElem? (i := 5) rfl)) (hts _ (List.mem_of_getElem? (i := 6) rfl)) hK.1.1 hP hD hS hA rfl (fun j hj => by rcases (show j = 0 ∨ j = 1 ∨ j = 2 ∨ j = 3 ∨ j = 4 ∨ j = 5 ∨ j = 6 ∨ j = 7 by omega) with rfl | rfl | rfl | rfl | rfl | rfl | rfl | rfl <;> rfl) (Nat.le_of_ble_eq_true rfl) (Nat.le_of_ble_eq_true rfl) dX1_init_5 (fun q1 H hP hD hS => ?_)
  have hP := sp_P_perm (w2 := [(q1, .inr (3, [.null, .null, .null, .null, .null, .int 0, .int 0, .int 0]))] ++ ([(i0, .inr (1, [.null, .int 0, .int 0]))])) (List.perm_append_comm) hP
  have hD := sp_D_perm (w2 := [(q1, .inr (3, [.null, .null, .null, .null, .null, .int 0, .int 0, .int 0]))] ++ ([(i0, .inr (1, [.null, .int 0, .int 0]))])) (List.perm_append_comm) hD
  refine W.widen (k := 1) (n := 8) (Nat.le_of_ble_eq_true rfl) (Nat.le_of_ble_eq_true rfl) ?_
  refine lv_dup hx hb dX1_init_8 rfl ?_
  refine sp_vcN (host := "StrikePlan") SF hK hA (c_X3_init l g q1) (⟨va_cnB 0 hts gX1_init_X3_init_n9 rfl rfl rfl hK.2.1.1 (hts _ (List.mem_of_getElem? (i := 6) rfl)) (by decide +kernel) ⟨Nat.le_of_ble_eq_true rfl, Nat.le_of_ble_eq_true rfl⟩, rfl, (hts _ (List.mem_of_getElem? (i := 10) rfl))⟩) hP hD hS hl.1 (Nat.le_of_ble_eq_true rfl) dX1_init_9 ⟨Nat.le_of_ble_eq_true rfl, Nat.le_of_ble_eq_true rfl⟩ (fun u9 H locs hw hP hD hS => ?_)
  obtain ⟨⟨q9, r9⟩, u1⟩ := u9
  have e9 : q1 = q9 := hw.1
  subst e9
  have hP : va_P g.1 vwCl ((twW g (q1, r9) u1) ++ ([(i0, .inr (1, [.null, .int 0, .int 0]))])) H := hP
  have hD : va_D A ((twW g (q1, r9) u1) ++ ([(i0, .inr (1, [.null, .int 0, .int 0]))])) := hD
  have hP := sp_P_perm (w2 := [(i0, .inr (1, [.null, .int 0, .int 0]))] ++ (twW g (q1, r9) u1)) (List.perm_append_comm) hP
  have hD := sp_D_perm (w2 := [(i0, .inr (1, [.null, .int 0, .int 0]))] ++ (twW g (q1, r9) u1)) (List.perm_append_comm) hD
  refine W.widen (k := 6) (n := 44) (Nat.le_of_ble_eq_true rfl) (Nat.le_of_ble_eq_true rfl) ?_
  refine va_putF (D := g.1) (ci := 1) (v := .ref q1) (ty := .object "StrikePlan$Tower") (C := RX1) (T := TX1) (N := 3) hx hb hts inX1 tyX1 tyX1_ok nmX1 hown hK.1.1 hP hD hS 0 rfl rfl 0 (by decide) (hts _ (List.mem_of_getElem? (i := 7) rfl)) (fun _ h9 => h9) rfl hin rfl (by decide +kernel) rfl rfl (Nat.le_of_ble_eq_true rfl) dX1_init_12 (fun H locs hP hD hS => ?_)
  have hP : va_P g.1 vwCl ([(i0, .inr (1, [.ref q1, .int 0, .int 0]))] ++ (twW g (q1, r9) u1)) H := hP
  have hD : va_D A ([(i0, .inr (1, [.ref q1, .int 0, .int 0]))] ++ (twW g (q1, r9) u1)) := hD
  refine lv_aload_n hx hb dX1_init_15 rfl (lv_at hl 0 rfl) ?_
  refine lv_iconst (v := nI 0) hx hb dX1_init_16 (by decide) ?_
  refine va_put (D := g.1) (ci := 1) (v := .int (nI 0)) (ty := .int) (C := RX1) (T := TX1) (N := 3) hx hb hts inX1 tyX1 tyX1_ok nmX1 hown hK.1.1 hP hD hS 0 rfl rfl 1 (by decide) (hts _ (List.mem_of_getElem? (i := 8) rfl)) (fun _ h9 => h9) rfl (by decide +kernel) rfl rfl (Nat.le_of_ble_eq_true rfl) dX1_init_17 (fun H locs hP hD hS => ?_)
  have hP : va_P g.1 vwCl ([(i0, .inr (1, [.ref q1, .int (nI 0), .int 0]))] ++ (twW g (q1, r9) u1)) H := hP
  have hD : va_D A ([(i0, .inr (1, [.ref q1, .int (nI 0), .int 0]))] ++ (twW g (q1, r9) u1)) := hD
  refine lv_aload_n hx hb dX1_init_20 rfl (lv_at hl 0 rfl) ?_
  refine lv_iconst (v := nI 0) hx hb dX1_init_21 (by decide) ?_
  refine va_put (D := g.1) (ci := 1) (v := .int (nI 0)) (ty := .boolean) (C := RX1) (T := TX1) (N := 3) hx hb hts inX1 tyX1 tyX1_ok nmX1 hown hK.1.1 hP hD hS 0 rfl rfl 2 (by decide) (hts _ (List.mem_of_getElem? (i := 9) rfl)) (fun _ h9 => h9) rfl (by decide +kernel) rfl rfl (Nat.le_of_ble_eq_true rfl) dX1_init_22 (fun H locs hP hD hS => ?_)
  have hP : va_P g.1 vwCl ([(i0, .inr (1, [.ref q1, .int (nI 0), .int (nI 0)]))] ++ (twW g (q1, r9) u1)) H := hP
  have hD : va_D A ([(i0, .inr (1, [.ref q1, .int (nI 0), .int (nI 0)]))] ++ (twW g (q1, r9) u1)) := hD
  exact hend _ _ _ _ ((q1, r9), u1) dX1_init_25 (trivial) hP hD hS

