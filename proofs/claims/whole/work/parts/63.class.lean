set_option maxHeartbeats 4000000 in
set_option maxRecDepth 100000 in
theorem c_X4_tryPour (l : Launch) (g : sp_G) (x0 : Nat) (aN aT : sp_A) (ap ab ai : Nat) (sd : Int32) (un ut : sp_U) (t : sp_T) (hR : sp_R un t) (hI : sp_I t) : sp_CB l g yX4_tryPour wsX4_tryPour ({ frames := 4, cells := 0, slots := 0, locals := 97 }) [.ref x0] (xoW x0 aN aT ap ab ai sd ++ (twW g aN un ++ (twW g aT ut))) (fun b (w : sp_U) => b = sp_mp t ∧ (b = true → sp_R w (sp_pour t))) (fun w => xoW x0 aN aT ap ab ai sd ++ (twW g aN un ++ twW g aT w)) := by
  refine sp_CB.of (cc := cX4_tryPour) (maxL := 1) (by decide) rfl (Nat.le_of_ble_eq_true rfl) ?_
  intro p e s m below meth c Q A ls SF hK hP hD hA hl hend
  have hx := SF.1
  have hb := SF.2.1
  have hown : s.vm.findClass RX4 = some m.cls := SF.2.2.2.1
  have hts := SF.2.2.2.2
  have hS : va_S A s.heap s.heap [] := va_S.rf
  have inX4 : ∀ w ∈ wsX40, w ∈ wsX4_tryPour := fun w h => List.mem_cons_of_mem _ (List.mem_append_left _ (List.mem_append_right _ h))
  have inX3 : ∀ w ∈ wsX30, w ∈ wsX4_tryPour := fun w h => List.mem_cons_of_mem _ (List.mem_append_right _ h)
  have hl : lv_has ls 1 [(0, .ref x0)] := hl
  have hn8 := hI.n
  refine lv_aload_n hx hb dX4_tryPour_0 rfl (lv_at hl 0 rfl) ?_
  refine va_get (D := g.1) (ci := 4) (v := .ref aN.1) (C := RX4) (T := TX4) (N := 6) hx hb hts inX4 hown hK.1 hP 0 rfl rfl 0 (by decide) (hts _ (List.mem_of_getElem? (i := 1) rfl)) (fun _ h9 => h9) rfl dX4_tryPour_1 ?_
  refine va_get (D := g.1) (ci := 3) (v := .int un.2.2.2.2.2.2.1) (C := RX3) (T := TX3) (N := 8) hx hb hts inX3 hown hK.1 hP 1 rfl rfl 6 (by decide) (hts _ (List.mem_of_getElem? (i := 2) rfl)) (fun _ h9 => h9) rfl dX4_tryPour_4 ?_
  refine sp_top (y := nI (tn t)) (hR.cnt) ?_
  refine lv_bipush (v := nI 8) hx hb dX4_tryPour_7 (by decide) ?_
  refine lv_icmp_lt (tgt := 14) hx hb dX4_tryPour_9 (by decide) (fun c1 => ?_) (fun c1 => ?_)
  · have c1 := (nI_ltI (by omega) (by omega)).mp c1
    refine lv_aload_n hx hb dX4_tryPour_14 rfl (lv_at hl 0 rfl) ?_
    refine va_get (D := g.1) (ci := 4) (v := .ref aT.1) (C := RX4) (T := TX4) (N := 6) hx hb hts inX4 hown hK.1 hP 0 rfl rfl 1 (by decide) (hts _ (List.mem_of_getElem? (i := 3) rfl)) (fun _ h9 => h9) rfl dX4_tryPour_15 ?_
    refine lv_aload_n hx hb dX4_tryPour_18 rfl (lv_at hl 0 rfl) ?_
    refine va_get (D := g.1) (ci := 4) (v := .ref aN.1) (C := RX4) (T := TX4) (N := 6) hx hb hts inX4 hown hK.1 hP 0 rfl rfl 0 (by decide) (hts _ (List.mem_of_getElem? (i := 1) rfl)) (fun _ h9 => h9) rfl dX4_tryPour_19 ?_
    have hP := sp_P_perm (w2 := (twW g aT ut ++ (twW g aN un)) ++ (xoW x0 aN aT ap ab ai sd)) (((List.Perm.append_left _ (List.perm_append_comm)).trans ((List.perm_append_comm_assoc _ _ _).trans ((List.Perm.append_left _ (List.perm_append_comm))))).trans (List.Perm.of_eq (by simp only [List.append_assoc]))) hP
    have hD := sp_D_perm (w2 := (twW g aT ut ++ (twW g aN un)) ++ (xoW x0 aN aT ap ab ai sd)) (((List.Perm.append_left _ (List.perm_append_comm)).trans ((List.perm_append_comm_assoc _ _ _).trans ((List.Perm.append_left _ (List.perm_append_comm))))).trans (List.Perm.of_eq (by simp only [List.append_assoc]))) hD
    refine sp_vv (n := 1) SF hK hA (c_X3_copyFrom l g aT aN ut un t hR hn8) gX4_tryPour_X3_copyFrom rfl rfl rfl (by decide +kernel) rfl ⟨Nat.le_of_ble_eq_true rfl, Nat.le_of_ble_eq_true rfl⟩ 3 0 rfl rfl hP hD hS hl.1 rfl (Nat.le_of_ble_eq_true rfl) dX4_tryPour_22 (fun u1 H locs hw1 hP hD hS => ?_)
    have hP : va_P g.1 vwCl ((twW g aT u1 ++ (twW g aN un)) ++ (xoW x0 aN aT ap ab ai sd)) H := hP
    have hD : va_D A ((twW g aT u1 ++ (twW g aN un)) ++ (xoW x0 aN aT ap ab ai sd)) := hD
    have hP := sp_P_perm (w2 := xoW x0 aN aT ap ab ai sd ++ (twW g aN un ++ (twW g aT u1))) ((List.Perm.of_eq (by simp only [List.append_assoc])).trans ((List.Perm.append_left _ (List.perm_append_comm)).trans ((List.perm_append_comm_assoc _ _ _).trans ((List.Perm.append_left _ (List.perm_append_comm)))))) hP
    have hD := sp_D_perm (w2 := xoW x0 aN aT ap ab ai sd ++ (twW g aN un ++ (twW g aT u1))) ((List.Perm.of_eq (by simp only [List.append_assoc])).trans ((List.Perm.append_left _ (List.perm_append_comm)).trans ((List.perm_append_comm_assoc _ _ _).trans ((List.Perm.append_left _ (List.perm_append_comm)))))) hD
    refine lv_aload_n hx hb dX4_tryPour_25 rfl (lv_at hl 0 rfl) ?_
    refine va_get (D := g.1) (ci := 4) (v := .ref aT.1) (C := RX4) (T := TX4) (N := 6) hx hb hts inX4 hown hK.1 hP 0 rfl rfl 1 (by decide) (hts _ (List.mem_of_getElem? (i := 3) rfl)) (fun _ h9 => h9) rfl dX4_tryPour_26 ?_
    have hP := sp_P_perm (w2 := (twW g aT u1) ++ (xoW x0 aN aT ap ab ai sd ++ (twW g aN un))) ((List.Perm.append_left _ (List.perm_append_comm)).trans ((List.perm_append_comm_assoc _ _ _))) hP
    have hD := sp_D_perm (w2 := (twW g aT u1) ++ (xoW x0 aN aT ap ab ai sd ++ (twW g aN un))) ((List.Perm.append_left _ (List.perm_append_comm)).trans ((List.perm_append_comm_assoc _ _ _))) hD
    refine sp_vv (n := 0) SF hK hA (c_X3_addFloor l g aT u1 t hw1 hI c1) gX4_tryPour_X3_addFloor rfl rfl rfl (by decide +kernel) rfl ⟨Nat.le_of_ble_eq_true rfl, Nat.le_of_ble_eq_true rfl⟩ 3 0 rfl rfl hP hD hS hl.1 rfl (Nat.le_of_ble_eq_true rfl) dX4_tryPour_29 (fun u2 H locs hw2 hP hD hS => ?_)
    have hP : va_P g.1 vwCl ((twW g aT u2) ++ (xoW x0 aN aT ap ab ai sd ++ (twW g aN un))) H := hP
    have hD : va_D A ((twW g aT u2) ++ (xoW x0 aN aT ap ab ai sd ++ (twW g aN un))) := hD
    have hP := sp_P_perm (w2 := xoW x0 aN aT ap ab ai sd ++ (twW g aN un ++ (twW g aT u2))) ((List.perm_append_comm_assoc _ _ _).trans ((List.Perm.append_left _ (List.perm_append_comm)))) hP
    have hD := sp_D_perm (w2 := xoW x0 aN aT ap ab ai sd ++ (twW g aN un ++ (twW g aT u2))) ((List.perm_append_comm_assoc _ _ _).trans ((List.Perm.append_left _ (List.perm_append_comm)))) hD
    refine lv_aload_n hx hb dX4_tryPour_32 rfl (lv_at hl 0 rfl) ?_
    refine va_get (D := g.1) (ci := 4) (v := .ref aT.1) (C := RX4) (T := TX4) (N := 6) hx hb hts inX4 hown hK.1 hP 0 rfl rfl 1 (by decide) (hts _ (List.mem_of_getElem? (i := 3) rfl)) (fun _ h9 => h9) rfl dX4_tryPour_33 ?_
    have hP := sp_P_perm (w2 := (twW g aT u2) ++ (xoW x0 aN aT ap ab ai sd ++ (twW g aN un))) ((List.Perm.append_left _ (List.perm_append_comm)).trans ((List.perm_append_comm_assoc _ _ _))) hP
    have hD := sp_D_perm (w2 := (twW g aT u2) ++ (xoW x0 aN aT ap ab ai sd ++ (twW g aN un))) ((List.Perm.append_left _ (List.perm_append_comm)).trans ((List.perm_append_comm_assoc _ _ _))) hD
    refine sp_vi (n := 0) SF hK hA (c_X3_isSafe l g aT u2 (sp_pour t) hw2 (sp_I_pour hI c1)) gX4_tryPour_X3_isSafe rfl rfl rfl (by decide +kernel) rfl ⟨Nat.le_of_ble_eq_true rfl, Nat.le_of_ble_eq_true rfl⟩ 3 0 rfl rfl hP hD hS hl.1 rfl (Nat.le_of_ble_eq_true rfl) dX4_tryPour_36 (fun r9 u9 H locs hbb hP hD hS => ?_)
    obtain ⟨bb, rfl, hbb⟩ := hbb
    have hP : va_P g.1 vwCl ((twW g aT u2) ++ (xoW x0 aN aT ap ab ai sd ++ (twW g aN un))) H := hP
    have hD : va_D A ((twW g aT u2) ++ (xoW x0 aN aT ap ab ai sd ++ (twW g aN un))) := hD
    have hP := sp_P_perm (w2 := xoW x0 aN aT ap ab ai sd ++ (twW g aN un ++ (twW g aT u2))) ((List.perm_append_comm_assoc _ _ _).trans ((List.Perm.append_left _ (List.perm_append_comm)))) hP
    have hD := sp_D_perm (w2 := xoW x0 aN aT ap ab ai sd ++ (twW g aN un ++ (twW g aT u2))) ((List.perm_append_comm_assoc _ _ _).trans ((List.Perm.append_left _ (List.perm_append_comm)))) hD
    exact hend _ _ _ _ bb u2 dX4_tryPour_39 (⟨hbb.trans (sp_mp_eq c1).symm, fun _ => hw2⟩) hP hD hS
  · have c1 := mt (nI_ltI (by omega) (by omega)).mpr c1
    refine lv_iconst (v := bI false) hx hb dX4_tryPour_12 (by decide) ?_
    exact hend _ _ _ _ false ut dX4_tryPour_13 (⟨by unfold sp_mp; rw [decide_eq_false c1]; rfl, fun q => absurd q (by decide)⟩) hP hD hS

set_option maxHeartbeats 4000000 in
set_option maxRecDepth 100000 in
theorem c_X4_tryStrike (l : Launch) (g : sp_G) (x0 : Nat) (aN aT : sp_A) (ap ab ai : Nat) (sd : Int32) (un ut : sp_U) (t : sp_T) (hR : sp_R un t) (hI : sp_I t) (x : Int32) (d : Nat) (hd : td t + d ≤ 200000) : sp_CB l g yX4_tryStrike wsX4_tryStrike ({ frames := 4, cells := 0, slots := 0, locals := 98 }) [.ref x0, .int x, .int (nI d)] (xoW x0 aN aT ap ab ai sd ++ (twW g aN un ++ (twW g aT ut))) (fun b (w : sp_U) => b = sp_msx (sp_setd t (td t + d)) x ∧ ∀ j, x = nI j → j < tn t → sp_pp t j = true → sp_R w (sp_stk (sp_setd t (td t + d)) j)) (fun w => xoW x0 aN aT ap ab ai sd ++ (twW g aN un ++ twW g aT w)) := by
  refine sp_CB.of (cc := cX4_tryStrike) (maxL := 3) (by decide) rfl (Nat.le_of_ble_eq_true rfl) ?_
  intro p e s m below meth c Q A ls SF hK hP hD hA hl hend
  have hx := SF.1
  have hb := SF.2.1
  have hown : s.vm.findClass RX4 = some m.cls := SF.2.2.2.1
  have hts := SF.2.2.2.2
  have hS : va_S A s.heap s.heap [] := va_S.rf
  have inX4 : ∀ w ∈ wsX40, w ∈ wsX4_tryStrike := fun w h => List.mem_cons_of_mem _ (List.mem_append_left _ (List.mem_append_right _ h))
  have inX3 : ∀ w ∈ wsX30, w ∈ wsX4_tryStrike := fun w h => List.mem_cons_of_mem _ (List.mem_append_right _ h)
  have hl : lv_has ls 3 [(0, .ref x0), (1, .int x), (2, .int (nI d))] := hl
  have hn8 := hI.n
  refine lv_aload_n hx hb dX4_tryStrike_0 rfl (lv_at hl 0 rfl) ?_
  refine va_get (D := g.1) (ci := 4) (v := .ref aN.1) (C := RX4) (T := TX4) (N := 6) hx hb hts inX4 hown hK.1 hP 0 rfl rfl 0 (by decide) (hts _ (List.mem_of_getElem? (i := 1) rfl)) (fun _ h9 => h9) rfl dX4_tryStrike_1 ?_
  refine lv_iload_n hx hb dX4_tryStrike_4 rfl (lv_at hl 1 rfl) ?_
  have hP := sp_P_perm (w2 := (twW g aN un) ++ (xoW x0 aN aT ap ab ai sd ++ (twW g aT ut))) ((List.perm_append_comm_assoc _ _ _)) hP
  have hD := sp_D_perm (w2 := (twW g aN un) ++ (xoW x0 aN aT ap ab ai sd ++ (twW g aT ut))) ((List.perm_append_comm_assoc _ _ _)) hD
  refine sp_vi (n := 1) SF hK hA (c_X3_has l g aN un t hR hI x) gX4_tryStrike_X3_has rfl rfl rfl (by decide +kernel) rfl ⟨Nat.le_of_ble_eq_true rfl, Nat.le_of_ble_eq_true rfl⟩ 3 0 rfl rfl hP hD hS hl.1 rfl (Nat.le_of_ble_eq_true rfl) dX4_tryStrike_5 (fun r9 u9 H locs hbb hP hD hS => ?_)
  obtain ⟨bb, rfl, hbb⟩ := hbb
  have hP : va_P g.1 vwCl ((twW g aN un) ++ (xoW x0 aN aT ap ab ai sd ++ (twW g aT ut))) H := hP
  have hD : va_D A ((twW g aN un) ++ (xoW x0 aN aT ap ab ai sd ++ (twW g aT ut))) := hD
  have hP := sp_P_perm (w2 := xoW x0 aN aT ap ab ai sd ++ (twW g aN un ++ (twW g aT ut))) ((List.perm_append_comm_assoc _ _ _)) hP
  have hD := sp_D_perm (w2 := xoW x0 aN aT ap ab ai sd ++ (twW g aN un ++ (twW g aT ut))) ((List.perm_append_comm_assoc _ _ _)) hD
  refine lv_if_eq (tgt := 22) hx hb dX4_tryStrike_8 (by decide) (fun c1 => ?_) (fun c1 => ?_)
  · have c1 := sp_b0.mp c1
    refine lv_iconst (v := bI false) hx hb dX4_tryStrike_22 (by decide) ?_
    exact hend _ _ _ _ false ut dX4_tryStrike_23 (by first | exact ⟨(sp_msx_f (t := (sp_setd t (td t + d))) (hbb.symm.trans c1)).symm, fun j h1 h2 _ => by subst h1; rw [sp_has_n hn8 h2] at hbb; rw [hbb] at c1; exact absurd c1 (by decide)⟩ | exact ⟨by rw [sp_msd hn8 hj]; unfold sp_ms; rw [show sp_pp (sp_setd t (td t + d)) j = b2 from hb2.symm, c2]; rfl, fun i h1 h2 h3 => by rw [← (nI_eq (by omega) (by omega)).mp h1] at h3; rw [← hb2, c2] at h3; exact absurd h3 (by decide)⟩) hP hD hS
  · have c1 := sp_b0n.mp c1
    obtain ⟨j, hj, rfl⟩ := sp_has_t (hbb.symm.trans c1) hn8
    refine lv_aload_n hx hb dX4_tryStrike_11 rfl (lv_at hl 0 rfl) ?_
    refine va_get (D := g.1) (ci := 4) (v := .ref aN.1) (C := RX4) (T := TX4) (N := 6) hx hb hts inX4 hown hK.1 hP 0 rfl rfl 0 (by decide) (hts _ (List.mem_of_getElem? (i := 1) rfl)) (fun _ h9 => h9) rfl dX4_tryStrike_12 ?_
    refine lv_iload_n hx hb dX4_tryStrike_15 rfl (lv_at hl 1 rfl) ?_
    have hP := sp_P_perm (w2 := (twW g aN un) ++ (xoW x0 aN aT ap ab ai sd ++ (twW g aT ut))) ((List.perm_append_comm_assoc _ _ _)) hP
    have hD := sp_D_perm (w2 := (twW g aN un) ++ (xoW x0 aN aT ap ab ai sd ++ (twW g aT ut))) ((List.perm_append_comm_assoc _ _ _)) hD
    refine sp_vi (n := 1) SF hK hA (c_X3_isPropped l g aN un t hR hI j (by omega)) gX4_tryStrike_X3_isPropped rfl rfl rfl (by decide +kernel) rfl ⟨Nat.le_of_ble_eq_true rfl, Nat.le_of_ble_eq_true rfl⟩ 3 0 rfl rfl hP hD hS hl.1 rfl (Nat.le_of_ble_eq_true rfl) dX4_tryStrike_16 (fun r9 u9 H locs hb2 hP hD hS => ?_)
    obtain ⟨b2, rfl, hb2⟩ := hb2
    have hP : va_P g.1 vwCl ((twW g aN un) ++ (xoW x0 aN aT ap ab ai sd ++ (twW g aT ut))) H := hP
    have hD : va_D A ((twW g aN un) ++ (xoW x0 aN aT ap ab ai sd ++ (twW g aT ut))) := hD
    have hP := sp_P_perm (w2 := xoW x0 aN aT ap ab ai sd ++ (twW g aN un ++ (twW g aT ut))) ((List.perm_append_comm_assoc _ _ _)) hP
    have hD := sp_D_perm (w2 := xoW x0 aN aT ap ab ai sd ++ (twW g aN un ++ (twW g aT ut))) ((List.perm_append_comm_assoc _ _ _)) hD
    refine lv_if_ne (tgt := 24) hx hb dX4_tryStrike_19 (by decide) (fun c2 => ?_) (fun c2 => ?_)
    · have c2 := sp_b0n.mp c2
      refine lv_aload_n hx hb dX4_tryStrike_24 rfl (lv_at hl 0 rfl) ?_
      refine va_get (D := g.1) (ci := 4) (v := .ref aT.1) (C := RX4) (T := TX4) (N := 6) hx hb hts inX4 hown hK.1 hP 0 rfl rfl 1 (by decide) (hts _ (List.mem_of_getElem? (i := 2) rfl)) (fun _ h9 => h9) rfl dX4_tryStrike_25 ?_
      refine lv_aload_n hx hb dX4_tryStrike_28 rfl (lv_at hl 0 rfl) ?_
      refine va_get (D := g.1) (ci := 4) (v := .ref aN.1) (C := RX4) (T := TX4) (N := 6) hx hb hts inX4 hown hK.1 hP 0 rfl rfl 0 (by decide) (hts _ (List.mem_of_getElem? (i := 1) rfl)) (fun _ h9 => h9) rfl dX4_tryStrike_29 ?_
      have hP := sp_P_perm (w2 := (twW g aT ut ++ (twW g aN un)) ++ (xoW x0 aN aT ap ab ai sd)) (((List.Perm.append_left _ (List.perm_append_comm)).trans ((List.perm_append_comm_assoc _ _ _).trans ((List.Perm.append_left _ (List.perm_append_comm))))).trans (List.Perm.of_eq (by simp only [List.append_assoc]))) hP
      have hD := sp_D_perm (w2 := (twW g aT ut ++ (twW g aN un)) ++ (xoW x0 aN aT ap ab ai sd)) (((List.Perm.append_left _ (List.perm_append_comm)).trans ((List.perm_append_comm_assoc _ _ _).trans ((List.Perm.append_left _ (List.perm_append_comm))))).trans (List.Perm.of_eq (by simp only [List.append_assoc]))) hD
      refine sp_vv (n := 1) SF hK hA (c_X3_copyFrom l g aT aN ut un t hR hn8) gX4_tryStrike_X3_copyFrom rfl rfl rfl (by decide +kernel) rfl ⟨Nat.le_of_ble_eq_true rfl, Nat.le_of_ble_eq_true rfl⟩ 3 0 rfl rfl hP hD hS hl.1 rfl (Nat.le_of_ble_eq_true rfl) dX4_tryStrike_32 (fun u1 H locs hw1 hP hD hS => ?_)
      have hP : va_P g.1 vwCl ((twW g aT u1 ++ (twW g aN un)) ++ (xoW x0 aN aT ap ab ai sd)) H := hP
      have hD : va_D A ((twW g aT u1 ++ (twW g aN un)) ++ (xoW x0 aN aT ap ab ai sd)) := hD
      have hP := sp_P_perm (w2 := xoW x0 aN aT ap ab ai sd ++ (twW g aN un ++ (twW g aT u1))) ((List.Perm.of_eq (by simp only [List.append_assoc])).trans ((List.Perm.append_left _ (List.perm_append_comm)).trans ((List.perm_append_comm_assoc _ _ _).trans ((List.Perm.append_left _ (List.perm_append_comm)))))) hP
      have hD := sp_D_perm (w2 := xoW x0 aN aT ap ab ai sd ++ (twW g aN un ++ (twW g aT u1))) ((List.Perm.of_eq (by simp only [List.append_assoc])).trans ((List.Perm.append_left _ (List.perm_append_comm)).trans ((List.perm_append_comm_assoc _ _ _).trans ((List.Perm.append_left _ (List.perm_append_comm)))))) hD
      refine lv_aload_n hx hb dX4_tryStrike_35 rfl (lv_at hl 0 rfl) ?_
      refine va_get (D := g.1) (ci := 4) (v := .ref aT.1) (C := RX4) (T := TX4) (N := 6) hx hb hts inX4 hown hK.1 hP 0 rfl rfl 1 (by decide) (hts _ (List.mem_of_getElem? (i := 2) rfl)) (fun _ h9 => h9) rfl dX4_tryStrike_36 ?_
      refine lv_dup hx hb dX4_tryStrike_39 rfl ?_
      refine va_get (D := g.1) (ci := 3) (v := .int u1.2.2.2.2.2.1) (C := RX3) (T := TX3) (N := 8) hx hb hts inX3 hown hK.1 hP 7 rfl rfl 5 (by decide) (hts _ (List.mem_of_getElem? (i := 3) rfl)) (fun _ h9 => h9) rfl dX4_tryStrike_40 ?_
      refine sp_top (y := nI (td t)) (hw1.day) ?_
      refine lv_iload_n hx hb dX4_tryStrike_43 rfl (lv_at hl 2 rfl) ?_
      refine lv_iadd hx hb dX4_tryStrike_44 ?_
      refine sp_top (y := nI ((td t) + d)) (nI_add _ _) ?_
      refine va_put (D := g.1) (ci := 3) (v := .int (nI ((td t) + d))) (ty := .int) (C := RX3) (T := TX3) (N := 8) hx hb hts inX3 tyX3 tyX3_ok nmX3 hown hK.1 hP hD hS 7 rfl rfl 5 (by decide) (hts _ (List.mem_of_getElem? (i := 3) rfl)) (fun _ h9 => h9) rfl (by decide +kernel) rfl rfl (Nat.le_of_ble_eq_true rfl) dX4_tryStrike_45 (fun H locs hP hD hS => ?_)
      have hP : va_P g.1 vwCl (xoW x0 aN aT ap ab ai sd ++ (twW g aN un ++ (twW g aT (u1.1, u1.2.1, u1.2.2.1, u1.2.2.2.1, u1.2.2.2.2.1, (nI ((td t) + d)), u1.2.2.2.2.2.2.1, u1.2.2.2.2.2.2.2)))) H := hP
      have hD : va_D A (xoW x0 aN aT ap ab ai sd ++ (twW g aN un ++ (twW g aT (u1.1, u1.2.1, u1.2.2.1, u1.2.2.2.1, u1.2.2.2.2.1, (nI ((td t) + d)), u1.2.2.2.2.2.2.1, u1.2.2.2.2.2.2.2)))) := hD
      refine lv_aload_n hx hb dX4_tryStrike_48 rfl (lv_at hl 0 rfl) ?_
      refine va_get (D := g.1) (ci := 4) (v := .ref aT.1) (C := RX4) (T := TX4) (N := 6) hx hb hts inX4 hown hK.1 hP 0 rfl rfl 1 (by decide) (hts _ (List.mem_of_getElem? (i := 2) rfl)) (fun _ h9 => h9) rfl dX4_tryStrike_49 ?_
      refine lv_iload_n hx hb dX4_tryStrike_52 rfl (lv_at hl 1 rfl) ?_
      have hP := sp_P_perm (w2 := (twW g aT (u1.1, u1.2.1, u1.2.2.1, u1.2.2.2.1, u1.2.2.2.2.1, (nI ((td t) + d)), u1.2.2.2.2.2.2.1, u1.2.2.2.2.2.2.2)) ++ (xoW x0 aN aT ap ab ai sd ++ (twW g aN un))) ((List.Perm.append_left _ (List.perm_append_comm)).trans ((List.perm_append_comm_assoc _ _ _))) hP
      have hD := sp_D_perm (w2 := (twW g aT (u1.1, u1.2.1, u1.2.2.1, u1.2.2.2.1, u1.2.2.2.2.1, (nI ((td t) + d)), u1.2.2.2.2.2.2.1, u1.2.2.2.2.2.2.2)) ++ (xoW x0 aN aT ap ab ai sd ++ (twW g aN un))) ((List.Perm.append_left _ (List.perm_append_comm)).trans ((List.perm_append_comm_assoc _ _ _))) hD
      refine sp_vv (n := 1) SF hK hA (c_X3_takeProps l g aT (u1.1, u1.2.1, u1.2.2.1, u1.2.2.2.1, u1.2.2.2.2.1, (nI ((td t) + d)), u1.2.2.2.2.2.2.1, u1.2.2.2.2.2.2.2) (sp_setd t (td t + d)) (sp_R_d hw1 (td t + d)) (sp_I_setd hI (by omega) hd) j hj) gX4_tryStrike_X3_takeProps rfl rfl rfl (by decide +kernel) rfl ⟨Nat.le_of_ble_eq_true rfl, Nat.le_of_ble_eq_true rfl⟩ 3 0 rfl rfl hP hD hS hl.1 rfl (Nat.le_of_ble_eq_true rfl) dX4_tryStrike_53 (fun u2 H locs hw2 hP hD hS => ?_)
      have hP : va_P g.1 vwCl ((twW g aT u2) ++ (xoW x0 aN aT ap ab ai sd ++ (twW g aN un))) H := hP
      have hD : va_D A ((twW g aT u2) ++ (xoW x0 aN aT ap ab ai sd ++ (twW g aN un))) := hD
      have hP := sp_P_perm (w2 := xoW x0 aN aT ap ab ai sd ++ (twW g aN un ++ (twW g aT u2))) ((List.perm_append_comm_assoc _ _ _).trans ((List.Perm.append_left _ (List.perm_append_comm)))) hP
      have hD := sp_D_perm (w2 := xoW x0 aN aT ap ab ai sd ++ (twW g aN un ++ (twW g aT u2))) ((List.perm_append_comm_assoc _ _ _).trans ((List.Perm.append_left _ (List.perm_append_comm)))) hD
      refine lv_aload_n hx hb dX4_tryStrike_56 rfl (lv_at hl 0 rfl) ?_
      refine va_get (D := g.1) (ci := 4) (v := .ref aT.1) (C := RX4) (T := TX4) (N := 6) hx hb hts inX4 hown hK.1 hP 0 rfl rfl 1 (by decide) (hts _ (List.mem_of_getElem? (i := 2) rfl)) (fun _ h9 => h9) rfl dX4_tryStrike_57 ?_
      have hP := sp_P_perm (w2 := (twW g aT u2) ++ (xoW x0 aN aT ap ab ai sd ++ (twW g aN un))) ((List.Perm.append_left _ (List.perm_append_comm)).trans ((List.perm_append_comm_assoc _ _ _))) hP
      have hD := sp_D_perm (w2 := (twW g aT u2) ++ (xoW x0 aN aT ap ab ai sd ++ (twW g aN un))) ((List.Perm.append_left _ (List.perm_append_comm)).trans ((List.perm_append_comm_assoc _ _ _))) hD
      refine sp_vi (n := 0) SF hK hA (c_X3_isSafe l g aT u2 (sp_stk (sp_setd t (td t + d)) j) hw2 (sp_I_stk (sp_I_setd hI (by omega) hd) j)) gX4_tryStrike_X3_isSafe rfl rfl rfl (by decide +kernel) rfl ⟨Nat.le_of_ble_eq_true rfl, Nat.le_of_ble_eq_true rfl⟩ 3 0 rfl rfl hP hD hS hl.1 rfl (Nat.le_of_ble_eq_true rfl) dX4_tryStrike_60 (fun r9 u9 H locs hb3 hP hD hS => ?_)
      obtain ⟨b3, rfl, hb3⟩ := hb3
      have hP : va_P g.1 vwCl ((twW g aT u2) ++ (xoW x0 aN aT ap ab ai sd ++ (twW g aN un))) H := hP
      have hD : va_D A ((twW g aT u2) ++ (xoW x0 aN aT ap ab ai sd ++ (twW g aN un))) := hD
      have hP := sp_P_perm (w2 := xoW x0 aN aT ap ab ai sd ++ (twW g aN un ++ (twW g aT u2))) ((List.perm_append_comm_assoc _ _ _).trans ((List.Perm.append_left _ (List.perm_append_comm)))) hP
      have hD := sp_D_perm (w2 := xoW x0 aN aT ap ab ai sd ++ (twW g aN un ++ (twW g aT u2))) ((List.perm_append_comm_assoc _ _ _).trans ((List.Perm.append_left _ (List.perm_append_comm)))) hD
      exact hend _ _ _ _ b3 u2 dX4_tryStrike_63 (⟨by rw [sp_msd hn8 hj, hb3]; unfold sp_ms; rw [show sp_pp (sp_setd t (td t + d)) j = b2 from hb2.symm, c2]; rfl, fun i h1 _ _ => by rw [← (nI_eq (by omega) (by omega)).mp h1]; exact hw2⟩) hP hD hS
    · have c2 := sp_b0.mp c2
      refine lv_iconst (v := bI false) hx hb dX4_tryStrike_22 (by decide) ?_
      exact hend _ _ _ _ false ut dX4_tryStrike_23 (by first | exact ⟨(sp_msx_f (t := (sp_setd t (td t + d))) (hbb.symm.trans c1)).symm, fun j h1 h2 _ => by subst h1; rw [sp_has_n hn8 h2] at hbb; rw [hbb] at c1; exact absurd c1 (by decide)⟩ | exact ⟨by rw [sp_msd hn8 hj]; unfold sp_ms; rw [show sp_pp (sp_setd t (td t + d)) j = b2 from hb2.symm, c2]; rfl, fun i h1 h2 h3 => by rw [← (nI_eq (by omega) (by omega)).mp h1] at h3; rw [← hb2, c2] at h3; exact absurd h3 (by decide)⟩) hP hD hS

set_option maxHeartbeats 4000000 in
set_option maxRecDepth 100000 in
theorem c_X4_maySet (l : Launch) (g : sp_G) (x0 : Nat) (aN aT : sp_A) (ap ab ai : Nat) (sd : Int32) (un ut : sp_U) (t : sp_T) (hR : sp_R un t) (hI : sp_I t) (hd : td t ≤ 199000) : sp_CI l g yX4_maySet wsX4_maySet ({ frames := 5, cells := 0, slots := 0, locals := 120 }) [.ref x0] (xoW x0 aN aT ap ab ai sd ++ (twW g aN un ++ (twW g aT ut))) (fun z (w : sp_U) => z = sp_mset t) (fun w => xoW x0 aN aT ap ab ai sd ++ (twW g aN un ++ twW g aT w)) := by
  refine sp_CI.of (cc := cX4_maySet) (maxL := 3) (by decide) rfl (Nat.le_of_ble_eq_true rfl) ?_
  intro p e s m below meth c Q A ls SF hK hP hD hA hl hend
  have hx := SF.1
  have hb := SF.2.1
  have hown : s.vm.findClass RX4 = some m.cls := SF.2.2.2.1
  have hts := SF.2.2.2.2
  have hS : va_S A s.heap s.heap [] := va_S.rf
  have inX4 : ∀ w ∈ wsX40, w ∈ wsX4_maySet := fun w h => List.mem_cons_of_mem _ (List.mem_append_left _ (List.mem_append_right _ h))
  have inX3 : ∀ w ∈ wsX30, w ∈ wsX4_maySet := fun w h => List.mem_cons_of_mem _ (List.mem_append_right _ h)
  have hl : lv_has ls 3 [(0, .ref x0)] := hl
  have hn8 := hI.n
  refine lv_iconst (v := nI 0) hx hb dX4_maySet_0 (by decide) ?_
  refine lv_istore_n (lv' := [(1, .int (nI 0)), (0, .ref x0)]) hx hb dX4_maySet_1 rfl hl (by decide) rfl (fun ls hl => ?_)
  refine lv_iconst (v := nI 0) hx hb dX4_maySet_2 (by decide) ?_
  refine lv_istore_n (lv' := [(2, .int (nI 0)), (1, .int (nI 0)), (0, .ref x0)]) hx hb dX4_maySet_3 rfl hl (by decide) rfl (fun ls hl => ?_)
  have hloop4 : ∀ (n4 : Nat) (k : Nat) (z : Int32) (uw : sp_U) (H : Heap) (locs : List Loc) (ls : Array Slot), (k ≤ tn t) → (lp (sp_mys t) (tn t - k) k z = sp_mset t) → tn t - k < n4 → va_P g.1 vwCl (xoW x0 aN aT ap ab ai sd ++ (twW g aN un ++ (twW g aT uw))) H → va_D A (xoW x0 aN aT ap ab ai sd ++ (twW g aN un ++ (twW g aT uw))) → va_S A s.heap H locs → lv_has ls 3 [(0, .ref x0), (1, .int z), (2, .int (nI k))] → W p l e ({ frames := 5, cells := 0, slots := 0, locals := 120 }) s m ([.ref x0] : List Value).toArray below meth c H locs 0 0 Q (F0 m 4 ls []) := by
    intro n4
    induction n4 with
    | zero =>
      intro k z uw H locs ls hk hh h9
      exact absurd h9 (Nat.not_lt_zero _)
    | succ n4 ih4 =>
      intro k z uw H locs ls hk hh hm4 hP hD hS hl
      refine lv_iload_n hx hb dX4_maySet_4 rfl (lv_at hl 2 rfl) ?_
      refine lv_aload_n hx hb dX4_maySet_5 rfl (lv_at hl 0 rfl) ?_
      refine va_get (D := g.1) (ci := 4) (v := .ref aN.1) (C := RX4) (T := TX4) (N := 6) hx hb hts inX4 hown hK.1 hP 0 rfl rfl 0 (by decide) (hts _ (List.mem_of_getElem? (i := 1) rfl)) (fun _ h9 => h9) rfl dX4_maySet_6 ?_
      refine va_get (D := g.1) (ci := 3) (v := .int un.2.2.2.2.2.2.1) (C := RX3) (T := TX3) (N := 8) hx hb hts inX3 hown hK.1 hP 1 rfl rfl 6 (by decide) (hts _ (List.mem_of_getElem? (i := 2) rfl)) (fun _ h9 => h9) rfl dX4_maySet_9 ?_
      refine sp_top (y := nI (tn t)) (hR.cnt) ?_
      refine lv_icmp_ge (tgt := 36) hx hb dX4_maySet_12 (by decide) (fun c1 => ?_) (fun c1 => ?_)
      · have c1 := (nI_leI (by omega) (by omega)).mp c1
        refine lv_iload_n hx hb dX4_maySet_36 rfl (lv_at hl 1 rfl) ?_
        exact hend _ _ _ _ _ uw dX4_maySet_37 (by rw [← hh, lp_end _ (by omega)]) hP hD hS
      · have c1 := mt (nI_leI (by omega) (by omega)).mpr c1
        refine lv_aload_n hx hb dX4_maySet_15 rfl (lv_at hl 0 rfl) ?_
        refine lv_iload_n hx hb dX4_maySet_16 rfl (lv_at hl 2 rfl) ?_
        refine lv_iconst (v := nI 0) hx hb dX4_maySet_17 (by decide) ?_
        refine sp_vi0 (n := 2) SF hK hA (c_X4_tryStrike l g x0 aN aT ap ab ai sd un uw t hR hI (nI k) 0 (by omega)) gX4_maySet_X4_tryStrike rfl rfl rfl (by decide +kernel) rfl ⟨Nat.le_of_ble_eq_true rfl, Nat.le_of_ble_eq_true rfl⟩ 4 0 rfl rfl hP hD hS hl.1 rfl (Nat.le_of_ble_eq_true rfl) dX4_maySet_18 (fun r9 u1 H locs hw1 hP hD hS => ?_)
        obtain ⟨b1, rfl, hw1⟩ := hw1
        have hP : va_P g.1 vwCl (xoW x0 aN aT ap ab ai sd ++ (twW g aN un ++ (twW g aT u1))) H := hP
        have hD : va_D A (xoW x0 aN aT ap ab ai sd ++ (twW g aN un ++ (twW g aT u1))) := hD
        have hms : b1 = sp_ms t k := hw1.1.trans (sp_msd (d := td t + 0) hn8 (by omega))
        refine lv_if_eq (tgt := 30) hx hb dX4_maySet_21 (by decide) (fun c2 => ?_) (fun c2 => ?_)
        · have c2 := sp_b0.mp c2
          refine lv_iinc (v := nI (k + 1)) (lv' := [(2, .int (nI (k + 1))), (0, .ref x0), (1, .int z)]) hx hb dX4_maySet_30 hl (k := 2) rfl (nI_1 k) (by decide) rfl (fun ls hl => ?_)
          refine lv_goto (tgt := 4) hx hb dX4_maySet_33 (by decide) ?_
          exact ih4 (k + 1) z u1 _ _ _ (by omega) (by rw [← hh, lp_step (sp_mys t) (show k < tn t by omega)]; first | rw [sp_mys_t (hms.symm.trans c2)] | rw [sp_mys_f (hms.symm.trans c2)]) (by omega) hP hD hS (lv_sub hl [1, 2, 0] rfl)
        · have c2 := sp_b0n.mp c2
          refine lv_iload_n hx hb dX4_maySet_24 rfl (lv_at hl 1 rfl) ?_
          refine lv_iconst (v := nI 1) hx hb dX4_maySet_25 (by decide) ?_
          refine lv_iload_n hx hb dX4_maySet_26 rfl (lv_at hl 2 rfl) ?_
          refine lv_ishl hx hb dX4_maySet_27 ?_
          refine lv_ior hx hb dX4_maySet_28 ?_
          refine lv_istore_n (lv' := [(1, .int (z ||| ((nI 1) <<< ((nI k) &&& 31)))), (0, .ref x0), (2, .int (nI k))]) hx hb dX4_maySet_29 rfl hl (by decide) rfl (fun ls hl => ?_)
          refine lv_iinc (v := nI (k + 1)) (lv' := [(2, .int (nI (k + 1))), (1, .int (z ||| ((nI 1) <<< ((nI k) &&& 31)))), (0, .ref x0)]) hx hb dX4_maySet_30 hl (k := 2) rfl (nI_1 k) (by decide) rfl (fun ls hl => ?_)
          refine lv_goto (tgt := 4) hx hb dX4_maySet_33 (by decide) ?_
          exact ih4 (k + 1) (z ||| ((nI 1) <<< ((nI k) &&& 31))) u1 _ _ _ (by omega) (by rw [← hh, lp_step (sp_mys t) (show k < tn t by omega)]; first | rw [sp_mys_t (hms.symm.trans c2)] | rw [sp_mys_f (hms.symm.trans c2)]) (by omega) hP hD hS (lv_sub hl [2, 1, 0] rfl)
  exact hloop4 (_ + 1) 0 (nI 0) ut _ _ _ (Nat.zero_le _) (rfl) (Nat.lt_succ_self _) hP hD hS (lv_sub hl [2, 1, 0] rfl)

set_option maxHeartbeats 4000000 in
set_option maxRecDepth 100000 in
theorem c_X4_earliestFor (l : Launch) (g : sp_G) (x0 : Nat) (aN aT : sp_A) (ap ab ai : Nat) (sd : Int32) (un ut : sp_U) (t : sp_T) (hR : sp_R un t) (hI : sp_I t) (hd : td t ≤ 199000) (i : Nat) (hi : i < tn t) : sp_CI l g yX4_earliestFor wsX4_earliestFor ({ frames := 5, cells := 0, slots := 0, locals := 120 }) [.ref x0, .int (nI i)] (xoW x0 aN aT ap ab ai sd ++ (twW g aN un ++ (twW g aT ut))) (fun z (w : sp_U) => z = sp_er t i) (fun w => xoW x0 aN aT ap ab ai sd ++ (twW g aN un ++ twW g aT w)) := by
  refine sp_CI.of (cc := cX4_earliestFor) (maxL := 3) (by decide) rfl (Nat.le_of_ble_eq_true rfl) ?_
  intro p e s m below meth c Q A ls SF hK hP hD hA hl hend
  have hx := SF.1
  have hb := SF.2.1
  have hown : s.vm.findClass RX4 = some m.cls := SF.2.2.2.1
  have hts := SF.2.2.2.2
  have hS : va_S A s.heap s.heap [] := va_S.rf
  have inX4 : ∀ w ∈ wsX40, w ∈ wsX4_earliestFor := fun w h => List.mem_cons_of_mem _ (List.mem_append_left _ (List.mem_append_right _ h))
  have inX3 : ∀ w ∈ wsX30, w ∈ wsX4_earliestFor := fun w h => List.mem_cons_of_mem _ (List.mem_append_right _ h)
  have hl : lv_has ls 3 [(0, .ref x0), (1, .int (nI i))] := hl
  have hn8 := hI.n
  refine lv_aload_n hx hb dX4_earliestFor_0 rfl (lv_at hl 0 rfl) ?_
  refine va_get (D := g.1) (ci := 4) (v := .ref aN.1) (C := RX4) (T := TX4) (N := 6) hx hb hts inX4 hown hK.1 hP 0 rfl rfl 0 (by decide) (hts _ (List.mem_of_getElem? (i := 1) rfl)) (fun _ h9 => h9) rfl dX4_earliestFor_1 ?_
  refine lv_iload_n hx hb dX4_earliestFor_4 rfl (lv_at hl 1 rfl) ?_
  have hP := sp_P_perm (w2 := (twW g aN un) ++ (xoW x0 aN aT ap ab ai sd ++ (twW g aT ut))) ((List.perm_append_comm_assoc _ _ _)) hP
  have hD := sp_D_perm (w2 := (twW g aN un) ++ (xoW x0 aN aT ap ab ai sd ++ (twW g aT ut))) ((List.perm_append_comm_assoc _ _ _)) hD
  refine sp_vi (n := 1) SF hK hA (c_X3_isPropped l g aN un t hR hI i (by omega)) gX4_earliestFor_X3_isPropped rfl rfl rfl (by decide +kernel) rfl ⟨Nat.le_of_ble_eq_true rfl, Nat.le_of_ble_eq_true rfl⟩ 3 0 rfl rfl hP hD hS hl.1 rfl (Nat.le_of_ble_eq_true rfl) dX4_earliestFor_5 (fun r9 u9 H locs hb2 hP hD hS => ?_)
  obtain ⟨b2, rfl, hb2⟩ := hb2
  have hP : va_P g.1 vwCl ((twW g aN un) ++ (xoW x0 aN aT ap ab ai sd ++ (twW g aT ut))) H := hP
  have hD : va_D A ((twW g aN un) ++ (xoW x0 aN aT ap ab ai sd ++ (twW g aT ut))) := hD
  have hP := sp_P_perm (w2 := xoW x0 aN aT ap ab ai sd ++ (twW g aN un ++ (twW g aT ut))) ((List.perm_append_comm_assoc _ _ _)) hP
  have hD := sp_D_perm (w2 := xoW x0 aN aT ap ab ai sd ++ (twW g aN un ++ (twW g aT ut))) ((List.perm_append_comm_assoc _ _ _)) hD
  refine lv_if_ne (tgt := 13) hx hb dX4_earliestFor_8 (by decide) (fun c2 => ?_) (fun c2 => ?_)
  · have c2 := sp_b0n.mp c2
    refine lv_iconst (v := nI 0) hx hb dX4_earliestFor_13 (by decide) ?_
    refine lv_istore_n (lv' := [(2, .int (nI 0)), (0, .ref x0), (1, .int (nI i))]) hx hb dX4_earliestFor_14 rfl hl (by decide) rfl (fun ls hl => ?_)
    have hloop15 : ∀ (n15 : Nat) (n : Nat) (uw : sp_U) (H : Heap) (locs : List Loc) (ls : Array Slot), (n ≤ 61) → (erF t i (61 - n) n = sp_er t i) → 61 - n < n15 → va_P g.1 vwCl (xoW x0 aN aT ap ab ai sd ++ (twW g aN un ++ (twW g aT uw))) H → va_D A (xoW x0 aN aT ap ab ai sd ++ (twW g aN un ++ (twW g aT uw))) → va_S A s.heap H locs → lv_has ls 3 [(0, .ref x0), (1, .int (nI i)), (2, .int (nI n))] → W p l e ({ frames := 5, cells := 0, slots := 0, locals := 120 }) s m ([.ref x0, .int (nI i)] : List Value).toArray below meth c H locs 0 0 Q (F0 m 15 ls []) := by
      intro n15
      induction n15 with
      | zero =>
        intro n uw H locs ls hn hh h9
        exact absurd h9 (Nat.not_lt_zero _)
      | succ n15 ih15 =>
        intro n uw H locs ls hn hh hm15 hP hD hS hl
        refine lv_iload_n hx hb dX4_earliestFor_15 rfl (lv_at hl 2 rfl) ?_
        refine lv_bipush (v := nI 60) hx hb dX4_earliestFor_16 (by decide) ?_
        refine lv_icmp_gt (tgt := 38) hx hb dX4_earliestFor_18 (by decide) (fun c1 => ?_) (fun c1 => ?_)
        · have c1 := (nI_ltI (by omega) (by omega)).mp c1
          refine lv_iconst (v := (-1)) hx hb dX4_earliestFor_38 (by decide) ?_
          exact hend _ _ _ _ _ uw dX4_earliestFor_39 (by rw [← hh, erF_e (by omega)]) hP hD hS
        · have c1 := mt (nI_ltI (by omega) (by omega)).mpr c1
          refine lv_aload_n hx hb dX4_earliestFor_21 rfl (lv_at hl 0 rfl) ?_
          refine lv_iload_n hx hb dX4_earliestFor_22 rfl (lv_at hl 1 rfl) ?_
          refine lv_iload_n hx hb dX4_earliestFor_23 rfl (lv_at hl 2 rfl) ?_
          refine sp_vi0 (n := 2) SF hK hA (c_X4_tryStrike l g x0 aN aT ap ab ai sd un uw t hR hI (nI i) n (by omega)) gX4_earliestFor_X4_tryStrike rfl rfl rfl (by decide +kernel) rfl ⟨Nat.le_of_ble_eq_true rfl, Nat.le_of_ble_eq_true rfl⟩ 4 0 rfl rfl hP hD hS hl.1 rfl (Nat.le_of_ble_eq_true rfl) dX4_earliestFor_24 (fun r9 u1 H locs hw1 hP hD hS => ?_)
          obtain ⟨b1, rfl, hw1⟩ := hw1
          have hP : va_P g.1 vwCl (xoW x0 aN aT ap ab ai sd ++ (twW g aN un ++ (twW g aT u1))) H := hP
          have hD : va_D A (xoW x0 aN aT ap ab ai sd ++ (twW g aN un ++ (twW g aT u1))) := hD
          have hms : b1 = sp_ms (sp_setd t (td t + n)) i := hw1.1.trans (sp_msd hn8 hi)
          refine lv_if_eq (tgt := 32) hx hb dX4_earliestFor_27 (by decide) (fun c3 => ?_) (fun c3 => ?_)
          · have c3 := sp_b0.mp c3
            refine lv_iinc (v := nI (n + 1)) (lv' := [(2, .int (nI (n + 1))), (0, .ref x0), (1, .int (nI i))]) hx hb dX4_earliestFor_32 hl (k := 2) rfl (nI_1 n) (by decide) rfl (fun ls hl => ?_)
            refine lv_goto (tgt := 15) hx hb dX4_earliestFor_35 (by decide) ?_
            exact ih15 (n + 1) u1 _ _ _ (by omega) (by rw [← hh, erF_f (by omega) (hms.symm.trans c3)]) (by omega) hP hD hS (lv_sub hl [1, 2, 0] rfl)
          · have c3 := sp_b0n.mp c3
            refine lv_iload_n hx hb dX4_earliestFor_30 rfl (lv_at hl 2 rfl) ?_
            exact hend _ _ _ _ _ u1 dX4_earliestFor_31 (by rw [← hh, erF_t (by omega) (hms.symm.trans c3)]) hP hD hS
    exact hloop15 (_ + 1) 0 ut _ _ _ (by omega) (rfl) (Nat.lt_succ_self _) hP hD hS (lv_sub hl [1, 2, 0] rfl)
  · have c2 := sp_b0.mp c2
    refine lv_iconst (v := (-1)) hx hb dX4_earliestFor_11 (by decide) ?_
    exact hend _ _ _ _ _ ut dX4_earliestFor_12 ((erF_np (hb2.symm.trans c2) 61 0).symm) hP hD hS

set_option maxHeartbeats 4000000 in
set_option maxRecDepth 100000 in
theorem c_X4_harmOf (l : Launch) (g : sp_G) (x0 : Nat) (aN aT : sp_A) (ap ab ai : Nat) (sd : Int32) (un ut : sp_U) (t : sp_T) (hR : sp_R un t) (hI : sp_I t) (hd : td t ≤ 199000) (i : Nat) (hi : i < tn t) : sp_CI l g yX4_harmOf wsX4_harmOf ({ frames := 5, cells := 0, slots := 0, locals := 120 }) [.ref x0, .int (nI i)] (xoW x0 aN aT ap ab ai sd ++ (twW g aN un ++ (twW g aT ut))) (fun z (w : sp_U) => z = sp_hm t i) (fun w => xoW x0 aN aT ap ab ai sd ++ (twW g aN un ++ twW g aT w)) := by
  refine sp_CI.of (cc := cX4_harmOf) (maxL := 2) (by decide) rfl (Nat.le_of_ble_eq_true rfl) ?_
  intro p e s m below meth c Q A ls SF hK hP hD hA hl hend
  have hx := SF.1
  have hb := SF.2.1
  have hown : s.vm.findClass RX4 = some m.cls := SF.2.2.2.1
  have hts := SF.2.2.2.2
  have hS : va_S A s.heap s.heap [] := va_S.rf
  have inX4 : ∀ w ∈ wsX40, w ∈ wsX4_harmOf := fun w h => List.mem_cons_of_mem _ (List.mem_append_left _ (List.mem_append_right _ h))
  have inX3 : ∀ w ∈ wsX30, w ∈ wsX4_harmOf := fun w h => List.mem_cons_of_mem _ (List.mem_append_right _ h)
  have hl : lv_has ls 2 [(0, .ref x0), (1, .int (nI i))] := hl
  have hn8 := hI.n
  refine lv_aload_n hx hb dX4_harmOf_0 rfl (lv_at hl 0 rfl) ?_
  refine va_get (D := g.1) (ci := 4) (v := .ref aN.1) (C := RX4) (T := TX4) (N := 6) hx hb hts inX4 hown hK.1 hP 0 rfl rfl 0 (by decide) (hts _ (List.mem_of_getElem? (i := 1) rfl)) (fun _ h9 => h9) rfl dX4_harmOf_1 ?_
  refine lv_iload_n hx hb dX4_harmOf_4 rfl (lv_at hl 1 rfl) ?_
  have hP := sp_P_perm (w2 := (twW g aN un) ++ (xoW x0 aN aT ap ab ai sd ++ (twW g aT ut))) ((List.perm_append_comm_assoc _ _ _)) hP
  have hD := sp_D_perm (w2 := (twW g aN un) ++ (xoW x0 aN aT ap ab ai sd ++ (twW g aT ut))) ((List.perm_append_comm_assoc _ _ _)) hD
  refine sp_vi (n := 1) SF hK hA (c_X3_isPropped l g aN un t hR hI i (by omega)) gX4_harmOf_X3_isPropped rfl rfl rfl (by decide +kernel) rfl ⟨Nat.le_of_ble_eq_true rfl, Nat.le_of_ble_eq_true rfl⟩ 3 0 rfl rfl hP hD hS hl.1 rfl (Nat.le_of_ble_eq_true rfl) dX4_harmOf_5 (fun r9 u9 H locs hb2 hP hD hS => ?_)
  obtain ⟨b2, rfl, hb2⟩ := hb2
  have hP : va_P g.1 vwCl ((twW g aN un) ++ (xoW x0 aN aT ap ab ai sd ++ (twW g aT ut))) H := hP
  have hD : va_D A ((twW g aN un) ++ (xoW x0 aN aT ap ab ai sd ++ (twW g aT ut))) := hD
  have hP := sp_P_perm (w2 := xoW x0 aN aT ap ab ai sd ++ (twW g aN un ++ (twW g aT ut))) ((List.perm_append_comm_assoc _ _ _)) hP
  have hD := sp_D_perm (w2 := xoW x0 aN aT ap ab ai sd ++ (twW g aN un ++ (twW g aT ut))) ((List.perm_append_comm_assoc _ _ _)) hD
  refine lv_if_ne (tgt := 13) hx hb dX4_harmOf_8 (by decide) (fun c2 => ?_) (fun c2 => ?_)
  · have c2 := sp_b0n.mp c2
    refine lv_aload_n hx hb dX4_harmOf_13 rfl (lv_at hl 0 rfl) ?_
    refine lv_iload_n hx hb dX4_harmOf_14 rfl (lv_at hl 1 rfl) ?_
    refine lv_iconst (v := nI 0) hx hb dX4_harmOf_15 (by decide) ?_
    refine sp_vi0 (n := 2) SF hK hA (c_X4_tryStrike l g x0 aN aT ap ab ai sd un ut t hR hI (nI i) 0 (by omega)) gX4_harmOf_X4_tryStrike rfl rfl rfl (by decide +kernel) rfl ⟨Nat.le_of_ble_eq_true rfl, Nat.le_of_ble_eq_true rfl⟩ 4 0 rfl rfl hP hD hS hl.1 rfl (Nat.le_of_ble_eq_true rfl) dX4_harmOf_16 (fun r9 u1 H locs hw1 hP hD hS => ?_)
    obtain ⟨b1, rfl, hw1⟩ := hw1
    have hP : va_P g.1 vwCl (xoW x0 aN aT ap ab ai sd ++ (twW g aN un ++ (twW g aT u1))) H := hP
    have hD : va_D A (xoW x0 aN aT ap ab ai sd ++ (twW g aN un ++ (twW g aT u1))) := hD
    refine lv_pop hx hb dX4_harmOf_19 rfl ?_
    have hs1 : sp_R u1 (sp_stk t i) := hw1.2 i rfl hi (hb2.symm.trans c2)
    refine lv_aload_n hx hb dX4_harmOf_20 rfl (lv_at hl 0 rfl) ?_
    refine va_get (D := g.1) (ci := 4) (v := .ref aT.1) (C := RX4) (T := TX4) (N := 6) hx hb hts inX4 hown hK.1 hP 0 rfl rfl 1 (by decide) (hts _ (List.mem_of_getElem? (i := 2) rfl)) (fun _ h9 => h9) rfl dX4_harmOf_21 ?_
    have hP := sp_P_perm (w2 := (twW g aT u1) ++ (xoW x0 aN aT ap ab ai sd ++ (twW g aN un))) ((List.Perm.append_left _ (List.perm_append_comm)).trans ((List.perm_append_comm_assoc _ _ _))) hP
    have hD := sp_D_perm (w2 := (twW g aT u1) ++ (xoW x0 aN aT ap ab ai sd ++ (twW g aN un))) ((List.Perm.append_left _ (List.perm_append_comm)).trans ((List.perm_append_comm_assoc _ _ _))) hD
    refine sp_vi (n := 0) SF hK hA (c_X3_greatestExcess l g aT u1 (sp_stk t i) hs1 (sp_I_stk hI i) (by rw [sp_stk_n]; omega)) gX4_harmOf_X3_greatestExcess rfl rfl rfl (by decide +kernel) rfl ⟨Nat.le_of_ble_eq_true rfl, Nat.le_of_ble_eq_true rfl⟩ 3 0 rfl rfl hP hD hS hl.1 rfl (Nat.le_of_ble_eq_true rfl) dX4_harmOf_24 (fun r9 u9 H locs w1 hP hD hS => ?_)
    subst w1
    have hP : va_P g.1 vwCl ((twW g aT u1) ++ (xoW x0 aN aT ap ab ai sd ++ (twW g aN un))) H := hP
    have hD : va_D A ((twW g aT u1) ++ (xoW x0 aN aT ap ab ai sd ++ (twW g aN un))) := hD
    have hP := sp_P_perm (w2 := xoW x0 aN aT ap ab ai sd ++ (twW g aN un ++ (twW g aT u1))) ((List.perm_append_comm_assoc _ _ _).trans ((List.Perm.append_left _ (List.perm_append_comm)))) hP
    have hD := sp_D_perm (w2 := xoW x0 aN aT ap ab ai sd ++ (twW g aN un ++ (twW g aT u1))) ((List.perm_append_comm_assoc _ _ _).trans ((List.Perm.append_left _ (List.perm_append_comm)))) hD
    refine lv_sipush (v := nI 1000) hx hb dX4_harmOf_27 (by decide) ?_
    refine lv_iadd hx hb dX4_harmOf_30 ?_
    exact hend _ _ _ _ _ u1 dX4_harmOf_31 (sp_hm_t (hb2.symm.trans c2)) hP hD hS
  · have c2 := sp_b0.mp c2
    refine lv_iconst (v := (-1)) hx hb dX4_harmOf_11 (by decide) ?_
    exact hend _ _ _ _ _ ut dX4_harmOf_12 (sp_hm_f (hb2.symm.trans c2)) hP hD hS

set_option maxHeartbeats 4000000 in
set_option maxRecDepth 100000 in
theorem c_X4_cycleHolds (l : Launch) (g : sp_G) (x0 : Nat) (aN aT : sp_A) (ap ab ai : Nat) (sd : Int32) (un ut : sp_U) (t : sp_T) (hR : sp_R un t) (hI : sp_I t) (mr cd : Nat) (hm1 : 1 ≤ mr) (hm3 : mr ≤ 3) (hc1 : 1 ≤ cd) (hc : cd ≤ 28) : sp_CB l g yX4_cycleHolds wsX4_cycleHolds ({ frames := 4, cells := 0, slots := 0, locals := 98 }) [.ref x0, .int (nI mr), .int (nI cd)] (xoW x0 aN aT ap ab ai sd ++ (twW g aN un ++ (twW g aT ut))) (fun b (w : sp_U) => b = sp_hold t mr cd) (fun w => xoW x0 aN aT ap ab ai sd ++ (twW g aN un ++ twW g aT w)) := by
  refine sp_CB.of (cc := cX4_cycleHolds) (maxL := 4) (by decide) rfl (Nat.le_of_ble_eq_true rfl) ?_
  intro p e s m below meth c Q A ls SF hK hP hD hA hl hend
  have hx := SF.1
  have hb := SF.2.1
  have hown : s.vm.findClass RX4 = some m.cls := SF.2.2.2.1
  have hts := SF.2.2.2.2
  have hS : va_S A s.heap s.heap [] := va_S.rf
  have inX4 : ∀ w ∈ wsX40, w ∈ wsX4_cycleHolds := fun w h => List.mem_cons_of_mem _ (List.mem_append_left _ (List.mem_append_right _ h))
  have inX3 : ∀ w ∈ wsX30, w ∈ wsX4_cycleHolds := fun w h => List.mem_cons_of_mem _ (List.mem_append_right _ h)
  have hl : lv_has ls 4 [(0, .ref x0), (1, .int (nI mr)), (2, .int (nI cd))] := hl
  have hn8 := hI.n
  refine lv_aload_n hx hb dX4_cycleHolds_0 rfl (lv_at hl 0 rfl) ?_
  refine va_get (D := g.1) (ci := 4) (v := .ref aT.1) (C := RX4) (T := TX4) (N := 6) hx hb hts inX4 hown hK.1 hP 0 rfl rfl 1 (by decide) (hts _ (List.mem_of_getElem? (i := 1) rfl)) (fun _ h9 => h9) rfl dX4_cycleHolds_1 ?_
  refine lv_aload_n hx hb dX4_cycleHolds_4 rfl (lv_at hl 0 rfl) ?_
  refine va_get (D := g.1) (ci := 4) (v := .ref aN.1) (C := RX4) (T := TX4) (N := 6) hx hb hts inX4 hown hK.1 hP 0 rfl rfl 0 (by decide) (hts _ (List.mem_of_getElem? (i := 2) rfl)) (fun _ h9 => h9) rfl dX4_cycleHolds_5 ?_
  have hP := sp_P_perm (w2 := (twW g aT ut ++ (twW g aN un)) ++ (xoW x0 aN aT ap ab ai sd)) (((List.Perm.append_left _ (List.perm_append_comm)).trans ((List.perm_append_comm_assoc _ _ _).trans ((List.Perm.append_left _ (List.perm_append_comm))))).trans (List.Perm.of_eq (by simp only [List.append_assoc]))) hP
  have hD := sp_D_perm (w2 := (twW g aT ut ++ (twW g aN un)) ++ (xoW x0 aN aT ap ab ai sd)) (((List.Perm.append_left _ (List.perm_append_comm)).trans ((List.perm_append_comm_assoc _ _ _).trans ((List.Perm.append_left _ (List.perm_append_comm))))).trans (List.Perm.of_eq (by simp only [List.append_assoc]))) hD
  refine sp_vv (n := 1) SF hK hA (c_X3_copyFrom l g aT aN ut un t hR hn8) gX4_cycleHolds_X3_copyFrom rfl rfl rfl (by decide +kernel) rfl ⟨Nat.le_of_ble_eq_true rfl, Nat.le_of_ble_eq_true rfl⟩ 3 0 rfl rfl hP hD hS hl.1 rfl (Nat.le_of_ble_eq_true rfl) dX4_cycleHolds_8 (fun u1 H locs hw1 hP hD hS => ?_)
  have hP : va_P g.1 vwCl ((twW g aT u1 ++ (twW g aN un)) ++ (xoW x0 aN aT ap ab ai sd)) H := hP
  have hD : va_D A ((twW g aT u1 ++ (twW g aN un)) ++ (xoW x0 aN aT ap ab ai sd)) := hD
  have hP := sp_P_perm (w2 := xoW x0 aN aT ap ab ai sd ++ (twW g aN un ++ (twW g aT u1))) ((List.Perm.of_eq (by simp only [List.append_assoc])).trans ((List.Perm.append_left _ (List.perm_append_comm)).trans ((List.perm_append_comm_assoc _ _ _).trans ((List.Perm.append_left _ (List.perm_append_comm)))))) hP
  have hD := sp_D_perm (w2 := xoW x0 aN aT ap ab ai sd ++ (twW g aN un ++ (twW g aT u1))) ((List.Perm.of_eq (by simp only [List.append_assoc])).trans ((List.Perm.append_left _ (List.perm_append_comm)).trans ((List.perm_append_comm_assoc _ _ _).trans ((List.Perm.append_left _ (List.perm_append_comm)))))) hD
  refine lv_aload_n hx hb dX4_cycleHolds_11 rfl (lv_at hl 0 rfl) ?_
  refine va_get (D := g.1) (ci := 4) (v := .ref aT.1) (C := RX4) (T := TX4) (N := 6) hx hb hts inX4 hown hK.1 hP 0 rfl rfl 1 (by decide) (hts _ (List.mem_of_getElem? (i := 1) rfl)) (fun _ h9 => h9) rfl dX4_cycleHolds_12 ?_
  have hP := sp_P_perm (w2 := (twW g aT u1) ++ (xoW x0 aN aT ap ab ai sd ++ (twW g aN un))) ((List.Perm.append_left _ (List.perm_append_comm)).trans ((List.perm_append_comm_assoc _ _ _))) hP
  have hD := sp_D_perm (w2 := (twW g aT u1) ++ (xoW x0 aN aT ap ab ai sd ++ (twW g aN un))) ((List.Perm.append_left _ (List.perm_append_comm)).trans ((List.perm_append_comm_assoc _ _ _))) hD
  refine sp_vv (n := 0) SF hK hA (c_X3_empty l g aT u1) gX4_cycleHolds_X3_empty rfl rfl rfl (by decide +kernel) rfl ⟨Nat.le_of_ble_eq_true rfl, Nat.le_of_ble_eq_true rfl⟩ 3 0 rfl rfl hP hD hS hl.1 rfl (Nat.le_of_ble_eq_true rfl) dX4_cycleHolds_15 (fun u9 H locs w1 hP hD hS => ?_)
  have hP : va_P g.1 vwCl ((twW g aT (u1.1, u1.2.1, u1.2.2.1, u1.2.2.2.1, u1.2.2.2.2.1, nI 0, nI 0, nI 0)) ++ (xoW x0 aN aT ap ab ai sd ++ (twW g aN un))) H := hP
  have hD : va_D A ((twW g aT (u1.1, u1.2.1, u1.2.2.1, u1.2.2.2.1, u1.2.2.2.2.1, nI 0, nI 0, nI 0)) ++ (xoW x0 aN aT ap ab ai sd ++ (twW g aN un))) := hD
  have hP := sp_P_perm (w2 := xoW x0 aN aT ap ab ai sd ++ (twW g aN un ++ (twW g aT (u1.1, u1.2.1, u1.2.2.1, u1.2.2.2.1, u1.2.2.2.2.1, nI 0, nI 0, nI 0)))) ((List.perm_append_comm_assoc _ _ _).trans ((List.Perm.append_left _ (List.perm_append_comm)))) hP
  have hD := sp_D_perm (w2 := xoW x0 aN aT ap ab ai sd ++ (twW g aN un ++ (twW g aT (u1.1, u1.2.1, u1.2.2.1, u1.2.2.2.1, u1.2.2.2.2.1, nI 0, nI 0, nI 0)))) ((List.perm_append_comm_assoc _ _ _).trans ((List.Perm.append_left _ (List.perm_append_comm)))) hD
  refine lv_iconst (v := nI 0) hx hb dX4_cycleHolds_18 (by decide) ?_
  refine lv_istore_n (lv' := [(3, .int (nI 0)), (0, .ref x0), (1, .int (nI mr)), (2, .int (nI cd))]) hx hb dX4_cycleHolds_19 rfl hl (by decide) rfl (fun ls hl => ?_)
  have hloop20 : ∀ (n20 : Nat) (k : Nat) (uw : sp_U) (r : sp_T) (H : Heap) (locs : List Loc) (ls : Array Slot), (k ≤ 8) → (sp_R uw r) → (sp_cyI t mr cd k r) → 8 - k < n20 → va_P g.1 vwCl (xoW x0 aN aT ap ab ai sd ++ (twW g aN un ++ (twW g aT uw))) H → va_D A (xoW x0 aN aT ap ab ai sd ++ (twW g aN un ++ (twW g aT uw))) → va_S A s.heap H locs → lv_has ls 4 [(0, .ref x0), (1, .int (nI mr)), (2, .int (nI cd)), (3, .int (nI k))] → W p l e ({ frames := 4, cells := 0, slots := 0, locals := 98 }) s m ([.ref x0, .int (nI mr), .int (nI cd)] : List Value).toArray below meth c H locs 0 0 Q (F0 m 20 ls []) := by
    intro n20
    induction n20 with
    | zero =>
      intro k uw r H locs ls hk hM hcy h9
      exact absurd h9 (Nat.not_lt_zero _)
    | succ n20 ih20 =>
      intro k uw r H locs ls hk hM hcy hm20 hP hD hS hl
      refine lv_iload_n hx hb dX4_cycleHolds_20 rfl (lv_at hl 3 rfl) ?_
      refine lv_bipush (v := nI 8) hx hb dX4_cycleHolds_21 (by decide) ?_
      refine lv_icmp_ge (tgt := 101) hx hb dX4_cycleHolds_23 (by decide) (fun c1 => ?_) (fun c1 => ?_)
      · have c1 := (nI_leI (by omega) (by omega)).mp c1
        refine lv_iconst (v := bI true) hx hb dX4_cycleHolds_101 (by decide) ?_
        exact hend _ _ _ _ true uw dX4_cycleHolds_102 ((sp_cyI_e hcy c1).symm) hP hD hS
      · have c1 := mt (nI_leI (by omega) (by omega)).mpr c1
        have hIr := hcy.1
        have hnr := hcy.2.1
        have hkc : k * cd ≤ 8 * 28 := Nat.mul_le_mul hk hc
        have hI1 := sp_cyI_d hcy (by omega) hc
        have hM1 := sp_R_d hM (k * cd)
        have hpc8 := sp_pcN_le (tpr r)
        refine lv_aload_n hx hb dX4_cycleHolds_26 rfl (lv_at hl 0 rfl) ?_
        refine va_get (D := g.1) (ci := 4) (v := .ref aT.1) (C := RX4) (T := TX4) (N := 6) hx hb hts inX4 hown hK.1 hP 0 rfl rfl 1 (by decide) (hts _ (List.mem_of_getElem? (i := 1) rfl)) (fun _ h9 => h9) rfl dX4_cycleHolds_27 ?_
        refine lv_iload_n hx hb dX4_cycleHolds_30 rfl (lv_at hl 3 rfl) ?_
        refine lv_iload_n hx hb dX4_cycleHolds_31 rfl (lv_at hl 2 rfl) ?_
        refine lv_imul hx hb dX4_cycleHolds_32 ?_
        refine sp_top (y := nI (k * cd)) (sp_mul _ _) ?_
        refine va_put (D := g.1) (ci := 3) (v := .int (nI (k * cd))) (ty := .int) (C := RX3) (T := TX3) (N := 8) hx hb hts inX3 tyX3 tyX3_ok nmX3 hown hK.1 hP hD hS 7 rfl rfl 5 (by decide) (hts _ (List.mem_of_getElem? (i := 3) rfl)) (fun _ h9 => h9) rfl (by decide +kernel) rfl rfl (Nat.le_of_ble_eq_true rfl) dX4_cycleHolds_33 (fun H locs hP hD hS => ?_)
        have hP : va_P g.1 vwCl (xoW x0 aN aT ap ab ai sd ++ (twW g aN un ++ (twW g aT (uw.1, uw.2.1, uw.2.2.1, uw.2.2.2.1, uw.2.2.2.2.1, (nI (k * cd)), uw.2.2.2.2.2.2.1, uw.2.2.2.2.2.2.2)))) H := hP
        have hD : va_D A (xoW x0 aN aT ap ab ai sd ++ (twW g aN un ++ (twW g aT (uw.1, uw.2.1, uw.2.2.1, uw.2.2.2.1, uw.2.2.2.2.1, (nI (k * cd)), uw.2.2.2.2.2.2.1, uw.2.2.2.2.2.2.2)))) := hD
        refine lv_aload_n hx hb dX4_cycleHolds_36 rfl (lv_at hl 0 rfl) ?_
        refine va_get (D := g.1) (ci := 4) (v := .ref aT.1) (C := RX4) (T := TX4) (N := 6) hx hb hts inX4 hown hK.1 hP 0 rfl rfl 1 (by decide) (hts _ (List.mem_of_getElem? (i := 1) rfl)) (fun _ h9 => h9) rfl dX4_cycleHolds_37 ?_
        refine va_get (D := g.1) (ci := 3) (v := .int uw.2.2.2.2.2.2.2) (C := RX3) (T := TX3) (N := 8) hx hb hts inX3 hown hK.1 hP 7 rfl rfl 7 (by decide) (hts _ (List.mem_of_getElem? (i := 4) rfl)) (fun _ h9 => h9) rfl dX4_cycleHolds_40 ?_
        refine sp_top (y := nI (tpr r)) (hM.prp) ?_
        refine sp_si (n := 1) (wc := []) (wr := (xoW x0 aN aT ap ab ai sd ++ (twW g aN un ++ (twW g aT (uw.1, uw.2.1, uw.2.2.1, uw.2.2.2.1, uw.2.2.2.2.1, (nI (k * cd)), uw.2.2.2.2.2.2.1, uw.2.2.2.2.2.2.2))))) SF hK hA (c_J6_bitCount_0f7a4 l g (tpr r) hI1.pr8) gX4_cycleHolds_J6_bitCount_0f7a4 rfl rfl rfl (by decide +kernel) rfl ⟨Nat.le_of_ble_eq_true rfl, Nat.le_of_ble_eq_true rfl⟩ hP hD hS hl.1 rfl (Nat.le_of_ble_eq_true rfl) dX4_cycleHolds_43 (fun r9 u9 H locs hbc hP hD hS => ?_)
        subst hbc
        have hP : va_P g.1 vwCl (xoW x0 aN aT ap ab ai sd ++ (twW g aN un ++ (twW g aT (uw.1, uw.2.1, uw.2.2.1, uw.2.2.2.1, uw.2.2.2.2.1, (nI (k * cd)), uw.2.2.2.2.2.2.1, uw.2.2.2.2.2.2.2)))) H := hP
        have hD : va_D A (xoW x0 aN aT ap ab ai sd ++ (twW g aN un ++ (twW g aT (uw.1, uw.2.1, uw.2.2.1, uw.2.2.2.1, uw.2.2.2.2.1, (nI (k * cd)), uw.2.2.2.2.2.2.1, uw.2.2.2.2.2.2.2)))) := hD
        refine lv_iload_n hx hb dX4_cycleHolds_46 rfl (lv_at hl 1 rfl) ?_
        refine lv_icmp_ne (tgt := 76) hx hb dX4_cycleHolds_47 (by decide) (fun c8 => ?_) (fun c8 => ?_)
        · have c8 := mt (nI_eq (by omega) (by omega)).mpr c8
          have hcy1 : cy1 mr (sp_setd r (k * cd)) = some (sp_setd r (k * cd)) := cy1_f c8
          refine lv_aload_n hx hb dX4_cycleHolds_76 rfl (lv_at hl 0 rfl) ?_
          refine va_get (D := g.1) (ci := 4) (v := .ref aT.1) (C := RX4) (T := TX4) (N := 6) hx hb hts inX4 hown hK.1 hP 0 rfl rfl 1 (by decide) (hts _ (List.mem_of_getElem? (i := 1) rfl)) (fun _ h9 => h9) rfl dX4_cycleHolds_77 ?_
          have hP := sp_P_perm (w2 := (twW g aT (uw.1, uw.2.1, uw.2.2.1, uw.2.2.2.1, uw.2.2.2.2.1, (nI (k * cd)), uw.2.2.2.2.2.2.1, uw.2.2.2.2.2.2.2)) ++ (xoW x0 aN aT ap ab ai sd ++ (twW g aN un))) ((List.Perm.append_left _ (List.perm_append_comm)).trans ((List.perm_append_comm_assoc _ _ _))) hP
          have hD := sp_D_perm (w2 := (twW g aT (uw.1, uw.2.1, uw.2.2.1, uw.2.2.2.1, uw.2.2.2.2.1, (nI (k * cd)), uw.2.2.2.2.2.2.1, uw.2.2.2.2.2.2.2)) ++ (xoW x0 aN aT ap ab ai sd ++ (twW g aN un))) ((List.Perm.append_left _ (List.perm_append_comm)).trans ((List.perm_append_comm_assoc _ _ _))) hD
          refine sp_vv (n := 0) SF hK hA (c_X3_addFloor l g aT (uw.1, uw.2.1, uw.2.2.1, uw.2.2.2.1, uw.2.2.2.2.1, (nI (k * cd)), uw.2.2.2.2.2.2.1, uw.2.2.2.2.2.2.2) (sp_setd r (k * cd)) hM1 hI1 (by show tn r < 8; omega)) gX4_cycleHolds_X3_addFloor rfl rfl rfl (by decide +kernel) rfl ⟨Nat.le_of_ble_eq_true rfl, Nat.le_of_ble_eq_true rfl⟩ 3 0 rfl rfl hP hD hS hl.1 rfl (Nat.le_of_ble_eq_true rfl) dX4_cycleHolds_80 (fun u2 H locs hs2 hP hD hS => ?_)
          have hP : va_P g.1 vwCl ((twW g aT u2) ++ (xoW x0 aN aT ap ab ai sd ++ (twW g aN un))) H := hP
          have hD : va_D A ((twW g aT u2) ++ (xoW x0 aN aT ap ab ai sd ++ (twW g aN un))) := hD
          have hP := sp_P_perm (w2 := xoW x0 aN aT ap ab ai sd ++ (twW g aN un ++ (twW g aT u2))) ((List.perm_append_comm_assoc _ _ _).trans ((List.Perm.append_left _ (List.perm_append_comm)))) hP
          have hD := sp_D_perm (w2 := xoW x0 aN aT ap ab ai sd ++ (twW g aN un ++ (twW g aT u2))) ((List.perm_append_comm_assoc _ _ _).trans ((List.Perm.append_left _ (List.perm_append_comm)))) hD
          refine lv_aload_n hx hb dX4_cycleHolds_83 rfl (lv_at hl 0 rfl) ?_
          refine va_get (D := g.1) (ci := 4) (v := .ref aT.1) (C := RX4) (T := TX4) (N := 6) hx hb hts inX4 hown hK.1 hP 0 rfl rfl 1 (by decide) (hts _ (List.mem_of_getElem? (i := 1) rfl)) (fun _ h9 => h9) rfl dX4_cycleHolds_84 ?_
          have hP := sp_P_perm (w2 := (twW g aT u2) ++ (xoW x0 aN aT ap ab ai sd ++ (twW g aN un))) ((List.Perm.append_left _ (List.perm_append_comm)).trans ((List.perm_append_comm_assoc _ _ _))) hP
          have hD := sp_D_perm (w2 := (twW g aT u2) ++ (xoW x0 aN aT ap ab ai sd ++ (twW g aN un))) ((List.Perm.append_left _ (List.perm_append_comm)).trans ((List.perm_append_comm_assoc _ _ _))) hD
          refine sp_vi (n := 0) SF hK hA (c_X3_isSafe l g aT u2 (sp_pour (sp_setd r (k * cd))) hs2 (sp_I_pour hI1 (by show tn r < 8; omega))) gX4_cycleHolds_X3_isSafe rfl rfl rfl (by decide +kernel) rfl ⟨Nat.le_of_ble_eq_true rfl, Nat.le_of_ble_eq_true rfl⟩ 3 0 rfl rfl hP hD hS hl.1 rfl (Nat.le_of_ble_eq_true rfl) dX4_cycleHolds_87 (fun r9 u9 H locs hb4 hP hD hS => ?_)
          obtain ⟨b4, rfl, hb4⟩ := hb4
          have hP : va_P g.1 vwCl ((twW g aT u2) ++ (xoW x0 aN aT ap ab ai sd ++ (twW g aN un))) H := hP
          have hD : va_D A ((twW g aT u2) ++ (xoW x0 aN aT ap ab ai sd ++ (twW g aN un))) := hD
          have hP := sp_P_perm (w2 := xoW x0 aN aT ap ab ai sd ++ (twW g aN un ++ (twW g aT u2))) ((List.perm_append_comm_assoc _ _ _).trans ((List.Perm.append_left _ (List.perm_append_comm)))) hP
          have hD := sp_D_perm (w2 := xoW x0 aN aT ap ab ai sd ++ (twW g aN un ++ (twW g aT u2))) ((List.perm_append_comm_assoc _ _ _).trans ((List.Perm.append_left _ (List.perm_append_comm)))) hD
          refine lv_if_ne (tgt := 95) hx hb dX4_cycleHolds_90 (by decide) (fun c10 => ?_) (fun c10 => ?_)
          · have c10 := sp_b0n.mp c10
            refine lv_iinc (v := nI (k + 1)) (lv' := [(3, .int (nI (k + 1))), (0, .ref x0), (1, .int (nI mr)), (2, .int (nI cd))]) hx hb dX4_cycleHolds_95 hl (k := 3) rfl (nI_1 k) (by decide) rfl (fun ls hl => ?_)
            refine lv_goto (tgt := 20) hx hb dX4_cycleHolds_98 (by decide) ?_
            exact ih20 (k + 1) u2 (sp_pour (sp_setd r (k * cd))) _ _ _ (by omega) (hs2) (sp_cyI_s hcy (by omega) (cyS_s hcy1 (cy2_t (hb4.symm.trans c10))) (sp_I_pour hI1 (by show tn r < 8; omega)) (by rw [sp_pour_n]; exact congrArg (· + 1) hnr) (by rw [sp_pour_d]; show k * cd ≤ (k + 1) * cd; exact Nat.mul_le_mul_right cd (by omega)) (sp_sm_pour (show sp_sm (sp_setd r (k * cd)) t from hcy.2.2.2.1))) (by omega) hP hD hS (lv_sub hl [1, 2, 3, 0] rfl)
          · have c10 := sp_b0.mp c10
            refine lv_iconst (v := bI false) hx hb dX4_cycleHolds_93 (by decide) ?_
            exact hend _ _ _ _ false u2 dX4_cycleHolds_94 ((sp_cyI_n hcy (by omega) (cyS_n2 hcy1 (cy2_n (hb4.symm.trans c10)))).symm) hP hD hS
        · have c8 := (nI_eq (by omega) (by omega)).mp c8
          have hlo : sp_lop (sp_setd r (k * cd)) < tn (sp_setd r (k * cd)) := sp_lop_lt hI1 (by show 0 < pcN (tpr r); omega)
          refine lv_aload_n hx hb dX4_cycleHolds_50 rfl (lv_at hl 0 rfl) ?_
          refine va_get (D := g.1) (ci := 4) (v := .ref aT.1) (C := RX4) (T := TX4) (N := 6) hx hb hts inX4 hown hK.1 hP 0 rfl rfl 1 (by decide) (hts _ (List.mem_of_getElem? (i := 1) rfl)) (fun _ h9 => h9) rfl dX4_cycleHolds_51 ?_
          refine lv_aload_n hx hb dX4_cycleHolds_54 rfl (lv_at hl 0 rfl) ?_
          refine va_get (D := g.1) (ci := 4) (v := .ref aT.1) (C := RX4) (T := TX4) (N := 6) hx hb hts inX4 hown hK.1 hP 0 rfl rfl 1 (by decide) (hts _ (List.mem_of_getElem? (i := 1) rfl)) (fun _ h9 => h9) rfl dX4_cycleHolds_55 ?_
          have hP := sp_P_perm (w2 := (twW g aT (uw.1, uw.2.1, uw.2.2.1, uw.2.2.2.1, uw.2.2.2.2.1, (nI (k * cd)), uw.2.2.2.2.2.2.1, uw.2.2.2.2.2.2.2)) ++ (xoW x0 aN aT ap ab ai sd ++ (twW g aN un))) ((List.Perm.append_left _ (List.perm_append_comm)).trans ((List.perm_append_comm_assoc _ _ _))) hP
          have hD := sp_D_perm (w2 := (twW g aT (uw.1, uw.2.1, uw.2.2.1, uw.2.2.2.1, uw.2.2.2.2.1, (nI (k * cd)), uw.2.2.2.2.2.2.1, uw.2.2.2.2.2.2.2)) ++ (xoW x0 aN aT ap ab ai sd ++ (twW g aN un))) ((List.Perm.append_left _ (List.perm_append_comm)).trans ((List.perm_append_comm_assoc _ _ _))) hD
          refine sp_vi (n := 0) SF hK hA (c_X3_lowestPropped l g aT (uw.1, uw.2.1, uw.2.2.1, uw.2.2.2.1, uw.2.2.2.2.1, (nI (k * cd)), uw.2.2.2.2.2.2.1, uw.2.2.2.2.2.2.2) (sp_setd r (k * cd)) hM1 hI1) gX4_cycleHolds_X3_lowestPropped rfl rfl rfl (by decide +kernel) rfl ⟨Nat.le_of_ble_eq_true rfl, Nat.le_of_ble_eq_true rfl⟩ 3 0 rfl rfl hP hD hS hl.1 rfl (Nat.le_of_ble_eq_true rfl) dX4_cycleHolds_58 (fun r9 u9 H locs w2 hP hD hS => ?_)
          subst w2
          have hP : va_P g.1 vwCl ((twW g aT (uw.1, uw.2.1, uw.2.2.1, uw.2.2.2.1, uw.2.2.2.2.1, (nI (k * cd)), uw.2.2.2.2.2.2.1, uw.2.2.2.2.2.2.2)) ++ (xoW x0 aN aT ap ab ai sd ++ (twW g aN un))) H := hP
          have hD : va_D A ((twW g aT (uw.1, uw.2.1, uw.2.2.1, uw.2.2.2.1, uw.2.2.2.2.1, (nI (k * cd)), uw.2.2.2.2.2.2.1, uw.2.2.2.2.2.2.2)) ++ (xoW x0 aN aT ap ab ai sd ++ (twW g aN un))) := hD
          have hP := sp_P_perm (w2 := xoW x0 aN aT ap ab ai sd ++ (twW g aN un ++ (twW g aT (uw.1, uw.2.1, uw.2.2.1, uw.2.2.2.1, uw.2.2.2.2.1, (nI (k * cd)), uw.2.2.2.2.2.2.1, uw.2.2.2.2.2.2.2)))) ((List.perm_append_comm_assoc _ _ _).trans ((List.Perm.append_left _ (List.perm_append_comm)))) hP
          have hD := sp_D_perm (w2 := xoW x0 aN aT ap ab ai sd ++ (twW g aN un ++ (twW g aT (uw.1, uw.2.1, uw.2.2.1, uw.2.2.2.1, uw.2.2.2.2.1, (nI (k * cd)), uw.2.2.2.2.2.2.1, uw.2.2.2.2.2.2.2)))) ((List.perm_append_comm_assoc _ _ _).trans ((List.Perm.append_left _ (List.perm_append_comm)))) hD
          have hP := sp_P_perm (w2 := (twW g aT (uw.1, uw.2.1, uw.2.2.1, uw.2.2.2.1, uw.2.2.2.2.1, (nI (k * cd)), uw.2.2.2.2.2.2.1, uw.2.2.2.2.2.2.2)) ++ (xoW x0 aN aT ap ab ai sd ++ (twW g aN un))) ((List.Perm.append_left _ (List.perm_append_comm)).trans ((List.perm_append_comm_assoc _ _ _))) hP
          have hD := sp_D_perm (w2 := (twW g aT (uw.1, uw.2.1, uw.2.2.1, uw.2.2.2.1, uw.2.2.2.2.1, (nI (k * cd)), uw.2.2.2.2.2.2.1, uw.2.2.2.2.2.2.2)) ++ (xoW x0 aN aT ap ab ai sd ++ (twW g aN un))) ((List.Perm.append_left _ (List.perm_append_comm)).trans ((List.perm_append_comm_assoc _ _ _))) hD
          refine sp_vv (n := 1) SF hK hA (c_X3_takeProps l g aT (uw.1, uw.2.1, uw.2.2.1, uw.2.2.2.1, uw.2.2.2.2.1, (nI (k * cd)), uw.2.2.2.2.2.2.1, uw.2.2.2.2.2.2.2) (sp_setd r (k * cd)) hM1 hI1 (sp_lop (sp_setd r (k * cd))) hlo) gX4_cycleHolds_X3_takeProps rfl rfl rfl (by decide +kernel) rfl ⟨Nat.le_of_ble_eq_true rfl, Nat.le_of_ble_eq_true rfl⟩ 3 0 rfl rfl hP hD hS hl.1 rfl (Nat.le_of_ble_eq_true rfl) dX4_cycleHolds_61 (fun u3 H locs hs1 hP hD hS => ?_)
          have hP : va_P g.1 vwCl ((twW g aT u3) ++ (xoW x0 aN aT ap ab ai sd ++ (twW g aN un))) H := hP
          have hD : va_D A ((twW g aT u3) ++ (xoW x0 aN aT ap ab ai sd ++ (twW g aN un))) := hD
          have hP := sp_P_perm (w2 := xoW x0 aN aT ap ab ai sd ++ (twW g aN un ++ (twW g aT u3))) ((List.perm_append_comm_assoc _ _ _).trans ((List.Perm.append_left _ (List.perm_append_comm)))) hP
          have hD := sp_D_perm (w2 := xoW x0 aN aT ap ab ai sd ++ (twW g aN un ++ (twW g aT u3))) ((List.perm_append_comm_assoc _ _ _).trans ((List.Perm.append_left _ (List.perm_append_comm)))) hD
          refine lv_aload_n hx hb dX4_cycleHolds_64 rfl (lv_at hl 0 rfl) ?_
          refine va_get (D := g.1) (ci := 4) (v := .ref aT.1) (C := RX4) (T := TX4) (N := 6) hx hb hts inX4 hown hK.1 hP 0 rfl rfl 1 (by decide) (hts _ (List.mem_of_getElem? (i := 1) rfl)) (fun _ h9 => h9) rfl dX4_cycleHolds_65 ?_
          have hP := sp_P_perm (w2 := (twW g aT u3) ++ (xoW x0 aN aT ap ab ai sd ++ (twW g aN un))) ((List.Perm.append_left _ (List.perm_append_comm)).trans ((List.perm_append_comm_assoc _ _ _))) hP
          have hD := sp_D_perm (w2 := (twW g aT u3) ++ (xoW x0 aN aT ap ab ai sd ++ (twW g aN un))) ((List.Perm.append_left _ (List.perm_append_comm)).trans ((List.perm_append_comm_assoc _ _ _))) hD
          refine sp_vi (n := 0) SF hK hA (c_X3_isSafe l g aT u3 (sp_stk (sp_setd r (k * cd)) (sp_lop (sp_setd r (k * cd)))) hs1 (sp_I_stk hI1 _)) gX4_cycleHolds_X3_isSafe rfl rfl rfl (by decide +kernel) rfl ⟨Nat.le_of_ble_eq_true rfl, Nat.le_of_ble_eq_true rfl⟩ 3 0 rfl rfl hP hD hS hl.1 rfl (Nat.le_of_ble_eq_true rfl) dX4_cycleHolds_68 (fun r9 u9 H locs hb3 hP hD hS => ?_)
          obtain ⟨b3, rfl, hb3⟩ := hb3
          have hP : va_P g.1 vwCl ((twW g aT u3) ++ (xoW x0 aN aT ap ab ai sd ++ (twW g aN un))) H := hP
          have hD : va_D A ((twW g aT u3) ++ (xoW x0 aN aT ap ab ai sd ++ (twW g aN un))) := hD
          have hP := sp_P_perm (w2 := xoW x0 aN aT ap ab ai sd ++ (twW g aN un ++ (twW g aT u3))) ((List.perm_append_comm_assoc _ _ _).trans ((List.Perm.append_left _ (List.perm_append_comm)))) hP
          have hD := sp_D_perm (w2 := xoW x0 aN aT ap ab ai sd ++ (twW g aN un ++ (twW g aT u3))) ((List.perm_append_comm_assoc _ _ _).trans ((List.Perm.append_left _ (List.perm_append_comm)))) hD
          refine lv_if_ne (tgt := 76) hx hb dX4_cycleHolds_71 (by decide) (fun c9 => ?_) (fun c9 => ?_)
          · have c9 := sp_b0n.mp c9
            refine lv_aload_n hx hb dX4_cycleHolds_76 rfl (lv_at hl 0 rfl) ?_
            refine va_get (D := g.1) (ci := 4) (v := .ref aT.1) (C := RX4) (T := TX4) (N := 6) hx hb hts inX4 hown hK.1 hP 0 rfl rfl 1 (by decide) (hts _ (List.mem_of_getElem? (i := 1) rfl)) (fun _ h9 => h9) rfl dX4_cycleHolds_77 ?_
            have hP := sp_P_perm (w2 := (twW g aT u3) ++ (xoW x0 aN aT ap ab ai sd ++ (twW g aN un))) ((List.Perm.append_left _ (List.perm_append_comm)).trans ((List.perm_append_comm_assoc _ _ _))) hP
            have hD := sp_D_perm (w2 := (twW g aT u3) ++ (xoW x0 aN aT ap ab ai sd ++ (twW g aN un))) ((List.Perm.append_left _ (List.perm_append_comm)).trans ((List.perm_append_comm_assoc _ _ _))) hD
            refine sp_vv (n := 0) SF hK hA (c_X3_addFloor l g aT u3 (sp_stk (sp_setd r (k * cd)) (sp_lop (sp_setd r (k * cd)))) hs1 (sp_I_stk hI1 _) (by rw [sp_stk_n]; show tn r < 8; omega)) gX4_cycleHolds_X3_addFloor rfl rfl rfl (by decide +kernel) rfl ⟨Nat.le_of_ble_eq_true rfl, Nat.le_of_ble_eq_true rfl⟩ 3 0 rfl rfl hP hD hS hl.1 rfl (Nat.le_of_ble_eq_true rfl) dX4_cycleHolds_80 (fun u2 H locs hs2 hP hD hS => ?_)
            have hP : va_P g.1 vwCl ((twW g aT u2) ++ (xoW x0 aN aT ap ab ai sd ++ (twW g aN un))) H := hP
            have hD : va_D A ((twW g aT u2) ++ (xoW x0 aN aT ap ab ai sd ++ (twW g aN un))) := hD
            have hP := sp_P_perm (w2 := xoW x0 aN aT ap ab ai sd ++ (twW g aN un ++ (twW g aT u2))) ((List.perm_append_comm_assoc _ _ _).trans ((List.Perm.append_left _ (List.perm_append_comm)))) hP
            have hD := sp_D_perm (w2 := xoW x0 aN aT ap ab ai sd ++ (twW g aN un ++ (twW g aT u2))) ((List.perm_append_comm_assoc _ _ _).trans ((List.Perm.append_left _ (List.perm_append_comm)))) hD
            refine lv_aload_n hx hb dX4_cycleHolds_83 rfl (lv_at hl 0 rfl) ?_
            refine va_get (D := g.1) (ci := 4) (v := .ref aT.1) (C := RX4) (T := TX4) (N := 6) hx hb hts inX4 hown hK.1 hP 0 rfl rfl 1 (by decide) (hts _ (List.mem_of_getElem? (i := 1) rfl)) (fun _ h9 => h9) rfl dX4_cycleHolds_84 ?_
            have hP := sp_P_perm (w2 := (twW g aT u2) ++ (xoW x0 aN aT ap ab ai sd ++ (twW g aN un))) ((List.Perm.append_left _ (List.perm_append_comm)).trans ((List.perm_append_comm_assoc _ _ _))) hP
            have hD := sp_D_perm (w2 := (twW g aT u2) ++ (xoW x0 aN aT ap ab ai sd ++ (twW g aN un))) ((List.Perm.append_left _ (List.perm_append_comm)).trans ((List.perm_append_comm_assoc _ _ _))) hD
            refine sp_vi (n := 0) SF hK hA (c_X3_isSafe l g aT u2 (sp_pour (sp_stk (sp_setd r (k * cd)) (sp_lop (sp_setd r (k * cd))))) hs2 (sp_I_pour (sp_I_stk hI1 _) (by rw [sp_stk_n]; show tn r < 8; omega))) gX4_cycleHolds_X3_isSafe rfl rfl rfl (by decide +kernel) rfl ⟨Nat.le_of_ble_eq_true rfl, Nat.le_of_ble_eq_true rfl⟩ 3 0 rfl rfl hP hD hS hl.1 rfl (Nat.le_of_ble_eq_true rfl) dX4_cycleHolds_87 (fun r9 u9 H locs hb4 hP hD hS => ?_)
            obtain ⟨b4, rfl, hb4⟩ := hb4
            have hP : va_P g.1 vwCl ((twW g aT u2) ++ (xoW x0 aN aT ap ab ai sd ++ (twW g aN un))) H := hP
            have hD : va_D A ((twW g aT u2) ++ (xoW x0 aN aT ap ab ai sd ++ (twW g aN un))) := hD
            have hP := sp_P_perm (w2 := xoW x0 aN aT ap ab ai sd ++ (twW g aN un ++ (twW g aT u2))) ((List.perm_append_comm_assoc _ _ _).trans ((List.Perm.append_left _ (List.perm_append_comm)))) hP
            have hD := sp_D_perm (w2 := xoW x0 aN aT ap ab ai sd ++ (twW g aN un ++ (twW g aT u2))) ((List.perm_append_comm_assoc _ _ _).trans ((List.Perm.append_left _ (List.perm_append_comm)))) hD
            refine lv_if_ne (tgt := 95) hx hb dX4_cycleHolds_90 (by decide) (fun c10 => ?_) (fun c10 => ?_)
            · have c10 := sp_b0n.mp c10
              refine lv_iinc (v := nI (k + 1)) (lv' := [(3, .int (nI (k + 1))), (0, .ref x0), (1, .int (nI mr)), (2, .int (nI cd))]) hx hb dX4_cycleHolds_95 hl (k := 3) rfl (nI_1 k) (by decide) rfl (fun ls hl => ?_)
              refine lv_goto (tgt := 20) hx hb dX4_cycleHolds_98 (by decide) ?_
              exact ih20 (k + 1) u2 (sp_pour (sp_stk (sp_setd r (k * cd)) (sp_lop (sp_setd r (k * cd))))) _ _ _ (by omega) (hs2) (sp_cyI_s hcy (by omega) (cyS_s (cy1_t c8 (hb3.symm.trans c9)) (cy2_t (hb4.symm.trans c10))) (sp_I_pour (sp_I_stk hI1 _) (by rw [sp_stk_n]; show tn r < 8; omega)) (by rw [sp_pour_n, sp_stk_n]; exact congrArg (· + 1) hnr) (by rw [sp_pour_d, sp_stk_d]; show k * cd ≤ (k + 1) * cd; exact Nat.mul_le_mul_right cd (by omega)) (sp_sm_pour (sp_sm_stk (r := (sp_setd r (k * cd))) hcy.2.2.2.1 _))) (by omega) hP hD hS (lv_sub hl [1, 2, 3, 0] rfl)
            · have c10 := sp_b0.mp c10
              refine lv_iconst (v := bI false) hx hb dX4_cycleHolds_93 (by decide) ?_
              exact hend _ _ _ _ false u2 dX4_cycleHolds_94 ((sp_cyI_n hcy (by omega) (cyS_n2 (cy1_t c8 (hb3.symm.trans c9)) (cy2_n (hb4.symm.trans c10)))).symm) hP hD hS
          · have c9 := sp_b0.mp c9
            refine lv_iconst (v := bI false) hx hb dX4_cycleHolds_74 (by decide) ?_
            exact hend _ _ _ _ false u3 dX4_cycleHolds_75 ((sp_cyI_n hcy (by omega) (cyS_n1 (cy1_n c8 (hb3.symm.trans c9)))).symm) hP hD hS
  exact hloop20 (_ + 1) 0 (u1.1, u1.2.1, u1.2.2.1, u1.2.2.2.1, u1.2.2.2.2.1, nI 0, nI 0, nI 0) (sp_clr t) _ _ _ (by omega) (sp_R_clr hw1) (sp_cyI_0 hI mr cd) (Nat.lt_succ_self _) hP hD hS (lv_sub hl [1, 2, 3, 0] rfl)

set_option maxHeartbeats 4000000 in
set_option maxRecDepth 100000 in
theorem c_X4_nextDraw (l : Launch) (g : sp_G) (x0 : Nat) (aN aT : sp_A) (ap ab ai : Nat) (s0 s1 : Nat) (hs : s0 < 2 ^ 31) (e1 : sp_nx s0 = s1) (b1 : s1 < 2 ^ 31) : sp_CI l g yX4_nextDraw wsX4_nextDraw ({ frames := 0, cells := 0, slots := 0, locals := 0 }) [.ref x0] (xoW x0 aN aT ap ab ai (nI s0)) (fun z (_ : Unit) => z = nI (s1 / 65536)) (fun _ => xoW x0 aN aT ap ab ai (nI s1)) := by
  refine sp_CI.of (cc := cX4_nextDraw) (maxL := 1) (by decide) rfl (Nat.le_of_ble_eq_true rfl) ?_
  intro p e s m below meth c Q A ls SF hK hP hD hA hl hend
  have hx := SF.1
  have hb := SF.2.1
  have hown : s.vm.findClass RX4 = some m.cls := SF.2.2.2.1
  have hts := SF.2.2.2.2
  have hS : va_S A s.heap s.heap [] := va_S.rf
  have inX4 : ∀ w ∈ wsX40, w ∈ wsX4_nextDraw := fun w h => List.mem_cons_of_mem _ (List.mem_append_right _ h)
  have hl : lv_has ls 1 [(0, .ref x0)] := hl
  refine lv_aload_n hx hb dX4_nextDraw_0 rfl (lv_at hl 0 rfl) ?_
  refine lv_aload_n hx hb dX4_nextDraw_1 rfl (lv_at hl 0 rfl) ?_
  refine va_get (D := g.1) (ci := 4) (v := .int (nI s0)) (C := RX4) (T := TX4) (N := 6) hx hb hts inX4 hown hK.1 hP 0 rfl rfl 5 (by decide) (hts _ (List.mem_of_getElem? (i := 1) rfl)) (fun _ h9 => h9) rfl dX4_nextDraw_2 ?_
  refine lv_ldc (v := nI 1103515245) hx hb hown (hts _ (List.mem_of_getElem? (i := 2) rfl)) dX4_nextDraw_5 ?_
  refine lv_imul hx hb dX4_nextDraw_7 ?_
  refine sp_top (y := nI (s0 * 1103515245)) (sp_mul _ _) ?_
  refine lv_sipush (v := nI 12345) hx hb dX4_nextDraw_8 (by decide) ?_
  refine lv_iadd hx hb dX4_nextDraw_11 ?_
  refine sp_top (y := nI ((s0 * 1103515245) + 12345)) (nI_add _ _) ?_
  refine lv_ldc (v := nI 2147483647) hx hb hown (hts _ (List.mem_of_getElem? (i := 3) rfl)) dX4_nextDraw_12 ?_
  refine lv_iand hx hb dX4_nextDraw_14 ?_
  refine sp_top (y := nI s1) ((sp_msk31 _).trans (congrArg nI e1)) ?_
  refine va_put (D := g.1) (ci := 4) (v := .int (nI s1)) (ty := .int) (C := RX4) (T := TX4) (N := 6) hx hb hts inX4 tyX4 tyX4_ok nmX4 hown hK.1 hP hD hS 0 rfl rfl 5 (by decide) (hts _ (List.mem_of_getElem? (i := 1) rfl)) (fun _ h9 => h9) rfl (by decide +kernel) rfl rfl (Nat.le_of_ble_eq_true rfl) dX4_nextDraw_15 (fun H locs hP hD hS => ?_)
  have hP : va_P g.1 vwCl (xoW x0 aN aT ap ab ai (nI s1)) H := hP
  have hD : va_D A (xoW x0 aN aT ap ab ai (nI s1)) := hD
  refine lv_aload_n hx hb dX4_nextDraw_18 rfl (lv_at hl 0 rfl) ?_
  refine va_get (D := g.1) (ci := 4) (v := .int (nI s1)) (C := RX4) (T := TX4) (N := 6) hx hb hts inX4 hown hK.1 hP 0 rfl rfl 5 (by decide) (hts _ (List.mem_of_getElem? (i := 1) rfl)) (fun _ h9 => h9) rfl dX4_nextDraw_19 ?_
  refine lv_ldc (v := nI 65536) hx hb hown (hts _ (List.mem_of_getElem? (i := 4) rfl)) dX4_nextDraw_22 ?_
  refine lv_idiv hx hb dX4_nextDraw_24 (sp_ne (by omega) (by omega)) ?_
  refine sp_top (y := nI (s1 / 65536)) (sp_div (by omega) (by omega) (by omega)) ?_
  exact hend _ _ _ _ _ () dX4_nextDraw_25 (rfl) hP hD hS

