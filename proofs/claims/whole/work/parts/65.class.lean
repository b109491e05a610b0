set_option maxHeartbeats 4000000 in
set_option maxRecDepth 100000 in
theorem c_X4_told (l : Launch) (g : sp_G) (K : sp_AD) (c : sp_C0) (x : sp_S) (hX : sp_C c x) (B : Nat) (hJ : sp_J x B) (hB : B ≤ 150000) (w0 : Int32) : sp_CI l g yX4_told wsX4_told ({ frames := 6, cells := 0, slots := 0, locals := 142 }) [.ref K.1, .int w0] (xW g K c) (fun r (c : sp_C0) => r = o_told x w0 ∧ sp_C c x) (fun c => xW g K c) := by
  obtain ⟨x0, aN, aT, aB, ap, ai, i0, i1, a0, a1, ar, ad⟩ := K
  obtain ⟨sd, pz, nx, un, ut, ub, s0, k0, s1, k1, u0, u1, cs⟩ := c
  obtain ⟨t, z⟩ := x
  obtain ⟨⟨hsd, hpz⟩, hR, hRB, hRP, h0, h1⟩ := hX
  dsimp only at hsd hpz hR hRB hRP h0 h1
  subst hsd
  subst hpz
  have hR : sp_R un t := hR
  have hI : sp_I t := hJ.now
  have hn8 := hI.n
  have hdB : td t ≤ B := hJ.d
  have hpz20 := hJ.pz
  have hnx := hRP.1
  have hbn20 := hJ.bn
  refine sp_CI.of (cc := cX4_told) (maxL := 2) (by decide) rfl (Nat.le_of_ble_eq_true rfl) ?_
  intro p e s m below meth c Q A ls SF hK hP hD hA hl hend
  have hx := SF.1
  have hb := SF.2.1
  have hown : s.vm.findClass RX4 = some m.cls := SF.2.2.2.1
  have hts := SF.2.2.2.2
  have hS : va_S A s.heap s.heap [] := va_S.rf
  have inX4 : ∀ w ∈ wsX40, w ∈ wsX4_told := fun w h => List.mem_cons_of_mem _ (List.mem_append_left _ (List.mem_append_left _ (List.mem_append_left _ (List.mem_append_right _ h))))
  have inX3 : ∀ w ∈ wsX30, w ∈ wsX4_told := fun w h => List.mem_cons_of_mem _ (List.mem_append_left _ (List.mem_append_left _ (List.mem_append_right _ h)))
  have inX0 : ∀ w ∈ wsX00, w ∈ wsX4_told := fun w h => List.mem_cons_of_mem _ (List.mem_append_left _ (List.mem_append_right _ h))
  have inX2 : ∀ w ∈ wsX20, w ∈ wsX4_told := fun w h => List.mem_cons_of_mem _ (List.mem_append_right _ h)
  have hl : lv_has ls 2 [(0, .ref x0), (1, .int w0)] := hl
  have hP : va_P g.1 vwCl (xoW x0 aN aT ap aB.1 ai (nI (s_sd (t, z))) ++ (twW g aN un ++ (twW g aT ut ++ (bkW g aB ub ++ (poW ap ar (nI nx) (nI (s_pz (t, z))) ++ (iaW g ai i0 i1 ++ (ioW i0 a0.1 s0 k0 ++ (ioW i1 a1.1 s1 k1 ++ (twW g a0 u0 ++ (twW g a1 u1 ++ (raW g ar ad ++ (rgW g ad cs 20)))))))))))) s.heap := hP
  have hD : va_D A (xoW x0 aN aT ap aB.1 ai (nI (s_sd (t, z))) ++ (twW g aN un ++ (twW g aT ut ++ (bkW g aB ub ++ (poW ap ar (nI nx) (nI (s_pz (t, z))) ++ (iaW g ai i0 i1 ++ (ioW i0 a0.1 s0 k0 ++ (ioW i1 a1.1 s1 k1 ++ (twW g a0 u0 ++ (twW g a1 u1 ++ (raW g ar ad ++ (rgW g ad cs 20)))))))))))) := hD
  refine lv_iload_n hx hb dX4_told_0 rfl (lv_at hl 1 rfl) ?_
  by_cases hsw : 0 ≤ w0.toInt ∧ w0.toInt ≤ 13
  · obtain ⟨k, hk, rfl⟩ := swI_ex (m := 13) hsw (by omega)
    rcases (show k = 0 ∨ k = 1 ∨ k = 2 ∨ k = 3 ∨ k = 4 ∨ k = 5 ∨ k = 6 ∨ k = 7 ∨ k = 8 ∨ k = 9 ∨ k = 10 ∨ k = 11 ∨ k = 12 ∨ k = 13 by omega) with rfl | rfl | rfl | rfl | rfl | rfl | rfl | rfl | rfl | rfl | rfl | rfl | rfl | rfl
    · refine lv_tableIn (off := 71) (tgt := 72) hx hb dX4_told_1 (by decide) (by decide) (by decide) (by decide) ?_
      refine lv_aload_n hx hb dX4_told_72 rfl (lv_at hl 0 rfl) ?_
      refine va_get (D := g.1) (ci := 4) (v := .ref aN.1) (C := RX4) (T := TX4) (N := 6) hx hb hts inX4 hown hK.1 hP 0 rfl rfl 0 (by decide) (hts _ (List.mem_of_getElem? (i := 1) rfl)) (fun _ h9 => h9) rfl dX4_told_73 ?_
      refine va_get (D := g.1) (ci := 3) (v := .int un.2.2.2.2.2.1) (C := RX3) (T := TX3) (N := 8) hx hb hts inX3 hown hK.1 hP 1 rfl rfl 5 (by decide) (hts _ (List.mem_of_getElem? (i := 2) rfl)) (fun _ h9 => h9) rfl dX4_told_76 ?_
      exact hend _ _ _ _ _ ((s_sd (t, z)), (s_pz (t, z)), nx, un, ut, ub, s0, k0, s1, k1, u0, u1, cs) dX4_told_79 (⟨(show _ = toldN (t, z) 0 from hR.day).trans (o_told_in (by omega)).symm, ⟨⟨rfl, rfl⟩, hR, hRB, hRP, h0, h1⟩⟩) hP hD hS
    · refine lv_tableIn (off := 79) (tgt := 80) hx hb dX4_told_1 (by decide) (by decide) (by decide) (by decide) ?_
      refine lv_aload_n hx hb dX4_told_80 rfl (lv_at hl 0 rfl) ?_
      refine va_get (D := g.1) (ci := 4) (v := .ref aN.1) (C := RX4) (T := TX4) (N := 6) hx hb hts inX4 hown hK.1 hP 0 rfl rfl 0 (by decide) (hts _ (List.mem_of_getElem? (i := 1) rfl)) (fun _ h9 => h9) rfl dX4_told_81 ?_
      refine va_get (D := g.1) (ci := 3) (v := .int un.2.2.2.2.2.2.1) (C := RX3) (T := TX3) (N := 8) hx hb hts inX3 hown hK.1 hP 1 rfl rfl 6 (by decide) (hts _ (List.mem_of_getElem? (i := 3) rfl)) (fun _ h9 => h9) rfl dX4_told_84 ?_
      exact hend _ _ _ _ _ ((s_sd (t, z)), (s_pz (t, z)), nx, un, ut, ub, s0, k0, s1, k1, u0, u1, cs) dX4_told_87 (⟨(show _ = toldN (t, z) 1 from hR.cnt).trans (o_told_in (by omega)).symm, ⟨⟨rfl, rfl⟩, hR, hRB, hRP, h0, h1⟩⟩) hP hD hS
    · refine lv_tableIn (off := 87) (tgt := 88) hx hb dX4_told_1 (by decide) (by decide) (by decide) (by decide) ?_
      refine lv_aload_n hx hb dX4_told_88 rfl (lv_at hl 0 rfl) ?_
      refine va_get (D := g.1) (ci := 4) (v := .ref aN.1) (C := RX4) (T := TX4) (N := 6) hx hb hts inX4 hown hK.1 hP 0 rfl rfl 0 (by decide) (hts _ (List.mem_of_getElem? (i := 1) rfl)) (fun _ h9 => h9) rfl dX4_told_89 ?_
      refine va_get (D := g.1) (ci := 3) (v := .ref aN.2.1) (C := RX3) (T := TX3) (N := 8) hx hb hts inX3 hown hK.1 hP 1 rfl rfl 0 (by decide) (hts _ (List.mem_of_getElem? (i := 4) rfl)) (fun _ h9 => h9) rfl dX4_told_92 ?_
      refine lv_iconst (v := nI 0) hx hb dX4_told_95 (by decide) ?_
      refine va_iald hx hb hK.1 hP 2 0 rfl rfl (vp_in_nI (by omega) (by omega)) dX4_told_96 ?_
      refine sp_top (y := un.1 0) (congrArg un.1 (sp_c8 (k := 0) (by omega))) ?_
      exact hend _ _ _ _ _ ((s_sd (t, z)), (s_pz (t, z)), nx, un, ut, ub, s0, k0, s1, k1, u0, u1, cs) dX4_told_97 (⟨(show _ = toldN (t, z) 2 from hR.b0).trans (o_told_in (by omega)).symm, ⟨⟨rfl, rfl⟩, hR, hRB, hRP, h0, h1⟩⟩) hP hD hS
    · refine lv_tableIn (off := 97) (tgt := 98) hx hb dX4_told_1 (by decide) (by decide) (by decide) (by decide) ?_
      refine lv_aload_n hx hb dX4_told_98 rfl (lv_at hl 0 rfl) ?_
      refine va_get (D := g.1) (ci := 4) (v := .ref aN.1) (C := RX4) (T := TX4) (N := 6) hx hb hts inX4 hown hK.1 hP 0 rfl rfl 0 (by decide) (hts _ (List.mem_of_getElem? (i := 1) rfl)) (fun _ h9 => h9) rfl dX4_told_99 ?_
      refine va_get (D := g.1) (ci := 3) (v := .ref aN.2.1) (C := RX3) (T := TX3) (N := 8) hx hb hts inX3 hown hK.1 hP 1 rfl rfl 0 (by decide) (hts _ (List.mem_of_getElem? (i := 4) rfl)) (fun _ h9 => h9) rfl dX4_told_102 ?_
      refine lv_iconst (v := nI 1) hx hb dX4_told_105 (by decide) ?_
      refine va_iald hx hb hK.1 hP 2 0 rfl rfl (vp_in_nI (by omega) (by omega)) dX4_told_106 ?_
      refine sp_top (y := un.1 1) (congrArg un.1 (sp_c8 (k := 1) (by omega))) ?_
      exact hend _ _ _ _ _ ((s_sd (t, z)), (s_pz (t, z)), nx, un, ut, ub, s0, k0, s1, k1, u0, u1, cs) dX4_told_107 (⟨(show _ = toldN (t, z) 3 from hR.b1).trans (o_told_in (by omega)).symm, ⟨⟨rfl, rfl⟩, hR, hRB, hRP, h0, h1⟩⟩) hP hD hS
    · refine lv_tableIn (off := 107) (tgt := 108) hx hb dX4_told_1 (by decide) (by decide) (by decide) (by decide) ?_
      refine lv_aload_n hx hb dX4_told_108 rfl (lv_at hl 0 rfl) ?_
      refine va_get (D := g.1) (ci := 4) (v := .ref aN.1) (C := RX4) (T := TX4) (N := 6) hx hb hts inX4 hown hK.1 hP 0 rfl rfl 0 (by decide) (hts _ (List.mem_of_getElem? (i := 1) rfl)) (fun _ h9 => h9) rfl dX4_told_109 ?_
      refine va_get (D := g.1) (ci := 3) (v := .ref aN.2.1) (C := RX3) (T := TX3) (N := 8) hx hb hts inX3 hown hK.1 hP 1 rfl rfl 0 (by decide) (hts _ (List.mem_of_getElem? (i := 4) rfl)) (fun _ h9 => h9) rfl dX4_told_112 ?_
      refine lv_iconst (v := nI 2) hx hb dX4_told_115 (by decide) ?_
      refine va_iald hx hb hK.1 hP 2 0 rfl rfl (vp_in_nI (by omega) (by omega)) dX4_told_116 ?_
      refine sp_top (y := un.1 2) (congrArg un.1 (sp_c8 (k := 2) (by omega))) ?_
      exact hend _ _ _ _ _ ((s_sd (t, z)), (s_pz (t, z)), nx, un, ut, ub, s0, k0, s1, k1, u0, u1, cs) dX4_told_117 (⟨(show _ = toldN (t, z) 4 from hR.b2).trans (o_told_in (by omega)).symm, ⟨⟨rfl, rfl⟩, hR, hRB, hRP, h0, h1⟩⟩) hP hD hS
    · refine lv_tableIn (off := 117) (tgt := 118) hx hb dX4_told_1 (by decide) (by decide) (by decide) (by decide) ?_
      refine lv_aload_n hx hb dX4_told_118 rfl (lv_at hl 0 rfl) ?_
      refine va_get (D := g.1) (ci := 4) (v := .ref aN.1) (C := RX4) (T := TX4) (N := 6) hx hb hts inX4 hown hK.1 hP 0 rfl rfl 0 (by decide) (hts _ (List.mem_of_getElem? (i := 1) rfl)) (fun _ h9 => h9) rfl dX4_told_119 ?_
      refine va_get (D := g.1) (ci := 3) (v := .ref aN.2.1) (C := RX3) (T := TX3) (N := 8) hx hb hts inX3 hown hK.1 hP 1 rfl rfl 0 (by decide) (hts _ (List.mem_of_getElem? (i := 4) rfl)) (fun _ h9 => h9) rfl dX4_told_122 ?_
      refine lv_iconst (v := nI 3) hx hb dX4_told_125 (by decide) ?_
      refine va_iald hx hb hK.1 hP 2 0 rfl rfl (vp_in_nI (by omega) (by omega)) dX4_told_126 ?_
      refine sp_top (y := un.1 3) (congrArg un.1 (sp_c8 (k := 3) (by omega))) ?_
      exact hend _ _ _ _ _ ((s_sd (t, z)), (s_pz (t, z)), nx, un, ut, ub, s0, k0, s1, k1, u0, u1, cs) dX4_told_127 (⟨(show _ = toldN (t, z) 5 from hR.b3).trans (o_told_in (by omega)).symm, ⟨⟨rfl, rfl⟩, hR, hRB, hRP, h0, h1⟩⟩) hP hD hS
    · refine lv_tableIn (off := 127) (tgt := 128) hx hb dX4_told_1 (by decide) (by decide) (by decide) (by decide) ?_
      refine lv_aload_n hx hb dX4_told_128 rfl (lv_at hl 0 rfl) ?_
      refine va_get (D := g.1) (ci := 4) (v := .ref aN.1) (C := RX4) (T := TX4) (N := 6) hx hb hts inX4 hown hK.1 hP 0 rfl rfl 0 (by decide) (hts _ (List.mem_of_getElem? (i := 1) rfl)) (fun _ h9 => h9) rfl dX4_told_129 ?_
      refine va_get (D := g.1) (ci := 3) (v := .int un.2.2.2.2.2.2.2) (C := RX3) (T := TX3) (N := 8) hx hb hts inX3 hown hK.1 hP 1 rfl rfl 7 (by decide) (hts _ (List.mem_of_getElem? (i := 5) rfl)) (fun _ h9 => h9) rfl dX4_told_132 ?_
      exact hend _ _ _ _ _ ((s_sd (t, z)), (s_pz (t, z)), nx, un, ut, ub, s0, k0, s1, k1, u0, u1, cs) dX4_told_135 (⟨(show _ = toldN (t, z) 6 from hR.prp).trans (o_told_in (by omega)).symm, ⟨⟨rfl, rfl⟩, hR, hRB, hRP, h0, h1⟩⟩) hP hD hS
    · refine lv_tableIn (off := 135) (tgt := 136) hx hb dX4_told_1 (by decide) (by decide) (by decide) (by decide) ?_
      refine lv_aload_n hx hb dX4_told_136 rfl (lv_at hl 0 rfl) ?_
      refine va_get (D := g.1) (ci := 4) (v := .ref aN.1) (C := RX4) (T := TX4) (N := 6) hx hb hts inX4 hown hK.1 hP 0 rfl rfl 0 (by decide) (hts _ (List.mem_of_getElem? (i := 1) rfl)) (fun _ h9 => h9) rfl dX4_told_137 ?_
      have hP := sp_P_perm (w2 := (twW g aN un) ++ (xoW x0 aN aT ap aB.1 ai (nI (s_sd (t, z))) ++ (twW g aT ut ++ (bkW g aB ub ++ (poW ap ar (nI nx) (nI (s_pz (t, z))) ++ (iaW g ai i0 i1 ++ (ioW i0 a0.1 s0 k0 ++ (ioW i1 a1.1 s1 k1 ++ (twW g a0 u0 ++ (twW g a1 u1 ++ (raW g ar ad ++ (rgW g ad cs 20)))))))))))) ((List.perm_append_comm_assoc _ _ _)) hP
      have hD := sp_D_perm (w2 := (twW g aN un) ++ (xoW x0 aN aT ap aB.1 ai (nI (s_sd (t, z))) ++ (twW g aT ut ++ (bkW g aB ub ++ (poW ap ar (nI nx) (nI (s_pz (t, z))) ++ (iaW g ai i0 i1 ++ (ioW i0 a0.1 s0 k0 ++ (ioW i1 a1.1 s1 k1 ++ (twW g a0 u0 ++ (twW g a1 u1 ++ (raW g ar ad ++ (rgW g ad cs 20)))))))))))) ((List.perm_append_comm_assoc _ _ _)) hD
      refine sp_vi (n := 0) SF hK hA (c_X3_weakSet l g aN un t hR hI) gX4_told_X3_weakSet rfl rfl rfl (by decide +kernel) rfl ⟨Nat.le_of_ble_eq_true rfl, Nat.le_of_ble_eq_true rfl⟩ 3 0 rfl rfl hP hD hS hl.1 rfl (Nat.le_of_ble_eq_true rfl) dX4_told_140 (fun r9 u9 H locs w1 hP hD hS => ?_)
      subst w1
      have hP : va_P g.1 vwCl ((twW g aN un) ++ (xoW x0 aN aT ap aB.1 ai (nI (s_sd (t, z))) ++ (twW g aT ut ++ (bkW g aB ub ++ (poW ap ar (nI nx) (nI (s_pz (t, z))) ++ (iaW g ai i0 i1 ++ (ioW i0 a0.1 s0 k0 ++ (ioW i1 a1.1 s1 k1 ++ (twW g a0 u0 ++ (twW g a1 u1 ++ (raW g ar ad ++ (rgW g ad cs 20)))))))))))) H := hP
      have hD : va_D A ((twW g aN un) ++ (xoW x0 aN aT ap aB.1 ai (nI (s_sd (t, z))) ++ (twW g aT ut ++ (bkW g aB ub ++ (poW ap ar (nI nx) (nI (s_pz (t, z))) ++ (iaW g ai i0 i1 ++ (ioW i0 a0.1 s0 k0 ++ (ioW i1 a1.1 s1 k1 ++ (twW g a0 u0 ++ (twW g a1 u1 ++ (raW g ar ad ++ (rgW g ad cs 20)))))))))))) := hD
      have hP := sp_P_perm (w2 := xoW x0 aN aT ap aB.1 ai (nI (s_sd (t, z))) ++ (twW g aN un ++ (twW g aT ut ++ (bkW g aB ub ++ (poW ap ar (nI nx) (nI (s_pz (t, z))) ++ (iaW g ai i0 i1 ++ (ioW i0 a0.1 s0 k0 ++ (ioW i1 a1.1 s1 k1 ++ (twW g a0 u0 ++ (twW g a1 u1 ++ (raW g ar ad ++ (rgW g ad cs 20)))))))))))) ((List.perm_append_comm_assoc _ _ _)) hP
      have hD := sp_D_perm (w2 := xoW x0 aN aT ap aB.1 ai (nI (s_sd (t, z))) ++ (twW g aN un ++ (twW g aT ut ++ (bkW g aB ub ++ (poW ap ar (nI nx) (nI (s_pz (t, z))) ++ (iaW g ai i0 i1 ++ (ioW i0 a0.1 s0 k0 ++ (ioW i1 a1.1 s1 k1 ++ (twW g a0 u0 ++ (twW g a1 u1 ++ (raW g ar ad ++ (rgW g ad cs 20)))))))))))) ((List.perm_append_comm_assoc _ _ _)) hD
      exact hend _ _ _ _ _ ((s_sd (t, z)), (s_pz (t, z)), nx, un, ut, ub, s0, k0, s1, k1, u0, u1, cs) dX4_told_143 (⟨(show _ = toldN (t, z) 7 from rfl).trans (o_told_in (by omega)).symm, ⟨⟨rfl, rfl⟩, hR, hRB, hRP, h0, h1⟩⟩) hP hD hS
    · refine lv_tableIn (off := 143) (tgt := 144) hx hb dX4_told_1 (by decide) (by decide) (by decide) (by decide) ?_
      refine lv_aload_n hx hb dX4_told_144 rfl (lv_at hl 0 rfl) ?_
      refine va_get (D := g.1) (ci := 4) (v := .ref aN.1) (C := RX4) (T := TX4) (N := 6) hx hb hts inX4 hown hK.1 hP 0 rfl rfl 0 (by decide) (hts _ (List.mem_of_getElem? (i := 1) rfl)) (fun _ h9 => h9) rfl dX4_told_145 ?_
      have hP := sp_P_perm (w2 := (twW g aN un) ++ (xoW x0 aN aT ap aB.1 ai (nI (s_sd (t, z))) ++ (twW g aT ut ++ (bkW g aB ub ++ (poW ap ar (nI nx) (nI (s_pz (t, z))) ++ (iaW g ai i0 i1 ++ (ioW i0 a0.1 s0 k0 ++ (ioW i1 a1.1 s1 k1 ++ (twW g a0 u0 ++ (twW g a1 u1 ++ (raW g ar ad ++ (rgW g ad cs 20)))))))))))) ((List.perm_append_comm_assoc _ _ _)) hP
      have hD := sp_D_perm (w2 := (twW g aN un) ++ (xoW x0 aN aT ap aB.1 ai (nI (s_sd (t, z))) ++ (twW g aT ut ++ (bkW g aB ub ++ (poW ap ar (nI nx) (nI (s_pz (t, z))) ++ (iaW g ai i0 i1 ++ (ioW i0 a0.1 s0 k0 ++ (ioW i1 a1.1 s1 k1 ++ (twW g a0 u0 ++ (twW g a1 u1 ++ (raW g ar ad ++ (rgW g ad cs 20)))))))))))) ((List.perm_append_comm_assoc _ _ _)) hD
      refine sp_vi (n := 0) SF hK hA (c_X3_isSafe l g aN un t hR hI) gX4_told_X3_isSafe rfl rfl rfl (by decide +kernel) rfl ⟨Nat.le_of_ble_eq_true rfl, Nat.le_of_ble_eq_true rfl⟩ 3 0 rfl rfl hP hD hS hl.1 rfl (Nat.le_of_ble_eq_true rfl) dX4_told_148 (fun r9 u9 H locs hb8 hP hD hS => ?_)
      obtain ⟨b8, rfl, hb8⟩ := hb8
      have hP : va_P g.1 vwCl ((twW g aN un) ++ (xoW x0 aN aT ap aB.1 ai (nI (s_sd (t, z))) ++ (twW g aT ut ++ (bkW g aB ub ++ (poW ap ar (nI nx) (nI (s_pz (t, z))) ++ (iaW g ai i0 i1 ++ (ioW i0 a0.1 s0 k0 ++ (ioW i1 a1.1 s1 k1 ++ (twW g a0 u0 ++ (twW g a1 u1 ++ (raW g ar ad ++ (rgW g ad cs 20)))))))))))) H := hP
      have hD : va_D A ((twW g aN un) ++ (xoW x0 aN aT ap aB.1 ai (nI (s_sd (t, z))) ++ (twW g aT ut ++ (bkW g aB ub ++ (poW ap ar (nI nx) (nI (s_pz (t, z))) ++ (iaW g ai i0 i1 ++ (ioW i0 a0.1 s0 k0 ++ (ioW i1 a1.1 s1 k1 ++ (twW g a0 u0 ++ (twW g a1 u1 ++ (raW g ar ad ++ (rgW g ad cs 20)))))))))))) := hD
      have hP := sp_P_perm (w2 := xoW x0 aN aT ap aB.1 ai (nI (s_sd (t, z))) ++ (twW g aN un ++ (twW g aT ut ++ (bkW g aB ub ++ (poW ap ar (nI nx) (nI (s_pz (t, z))) ++ (iaW g ai i0 i1 ++ (ioW i0 a0.1 s0 k0 ++ (ioW i1 a1.1 s1 k1 ++ (twW g a0 u0 ++ (twW g a1 u1 ++ (raW g ar ad ++ (rgW g ad cs 20)))))))))))) ((List.perm_append_comm_assoc _ _ _)) hP
      have hD := sp_D_perm (w2 := xoW x0 aN aT ap aB.1 ai (nI (s_sd (t, z))) ++ (twW g aN un ++ (twW g aT ut ++ (bkW g aB ub ++ (poW ap ar (nI nx) (nI (s_pz (t, z))) ++ (iaW g ai i0 i1 ++ (ioW i0 a0.1 s0 k0 ++ (ioW i1 a1.1 s1 k1 ++ (twW g a0 u0 ++ (twW g a1 u1 ++ (raW g ar ad ++ (rgW g ad cs 20)))))))))))) ((List.perm_append_comm_assoc _ _ _)) hD
      refine lv_if_eq (tgt := 158) hx hb dX4_told_151 (by decide) (fun c8 => ?_) (fun c8 => ?_)
      · have c8 := sp_b0.mp c8
        refine lv_iconst (v := nI 0) hx hb dX4_told_158 (by decide) ?_
        exact hend _ _ _ _ _ ((s_sd (t, z)), (s_pz (t, z)), nx, un, ut, ub, s0, k0, s1, k1, u0, u1, cs) dX4_told_159 (⟨(show _ = toldN (t, z) 8 from by show _ = bI (sp_safe t); rw [← hb8, c8]; rfl).trans (o_told_in (by omega)).symm, ⟨⟨rfl, rfl⟩, hR, hRB, hRP, h0, h1⟩⟩) hP hD hS
      · have c8 := sp_b0n.mp c8
        refine lv_iconst (v := nI 1) hx hb dX4_told_154 (by decide) ?_
        refine lv_goto (tgt := 159) hx hb dX4_told_155 (by decide) ?_
        exact hend _ _ _ _ _ ((s_sd (t, z)), (s_pz (t, z)), nx, un, ut, ub, s0, k0, s1, k1, u0, u1, cs) dX4_told_159 (⟨(show _ = toldN (t, z) 8 from by show _ = bI (sp_safe t); rw [← hb8, c8]; rfl).trans (o_told_in (by omega)).symm, ⟨⟨rfl, rfl⟩, hR, hRB, hRP, h0, h1⟩⟩) hP hD hS
    · refine lv_tableIn (off := 159) (tgt := 160) hx hb dX4_told_1 (by decide) (by decide) (by decide) (by decide) ?_
      refine lv_aload_n hx hb dX4_told_160 rfl (lv_at hl 0 rfl) ?_
      have hP := sp_P_perm (w2 := (xoW x0 aN aT ap aB.1 ai (nI (s_sd (t, z))) ++ (twW g aN un ++ (twW g aT ut))) ++ (bkW g aB ub ++ (poW ap ar (nI nx) (nI (s_pz (t, z))) ++ (iaW g ai i0 i1 ++ (ioW i0 a0.1 s0 k0 ++ (ioW i1 a1.1 s1 k1 ++ (twW g a0 u0 ++ (twW g a1 u1 ++ (raW g ar ad ++ (rgW g ad cs 20)))))))))) ((List.Perm.refl _).trans (List.Perm.of_eq (by simp only [List.append_assoc]))) hP
      have hD := sp_D_perm (w2 := (xoW x0 aN aT ap aB.1 ai (nI (s_sd (t, z))) ++ (twW g aN un ++ (twW g aT ut))) ++ (bkW g aB ub ++ (poW ap ar (nI nx) (nI (s_pz (t, z))) ++ (iaW g ai i0 i1 ++ (ioW i0 a0.1 s0 k0 ++ (ioW i1 a1.1 s1 k1 ++ (twW g a0 u0 ++ (twW g a1 u1 ++ (raW g ar ad ++ (rgW g ad cs 20)))))))))) ((List.Perm.refl _).trans (List.Perm.of_eq (by simp only [List.append_assoc]))) hD
      refine sp_vi (n := 0) SF hK hA (c_X4_maySet l g x0 aN aT ap aB.1 ai (nI (s_sd (t, z))) un ut t hR hI (by omega)) gX4_told_X4_maySet rfl rfl rfl (by decide +kernel) rfl ⟨Nat.le_of_ble_eq_true rfl, Nat.le_of_ble_eq_true rfl⟩ 4 0 rfl rfl hP hD hS hl.1 rfl (Nat.le_of_ble_eq_true rfl) dX4_told_161 (fun r9 u2 H locs hw2 hP hD hS => ?_)
      subst hw2
      have hP : va_P g.1 vwCl ((xoW x0 aN aT ap aB.1 ai (nI (s_sd (t, z))) ++ (twW g aN un ++ (twW g aT u2))) ++ (bkW g aB ub ++ (poW ap ar (nI nx) (nI (s_pz (t, z))) ++ (iaW g ai i0 i1 ++ (ioW i0 a0.1 s0 k0 ++ (ioW i1 a1.1 s1 k1 ++ (twW g a0 u0 ++ (twW g a1 u1 ++ (raW g ar ad ++ (rgW g ad cs 20)))))))))) H := hP
      have hD : va_D A ((xoW x0 aN aT ap aB.1 ai (nI (s_sd (t, z))) ++ (twW g aN un ++ (twW g aT u2))) ++ (bkW g aB ub ++ (poW ap ar (nI nx) (nI (s_pz (t, z))) ++ (iaW g ai i0 i1 ++ (ioW i0 a0.1 s0 k0 ++ (ioW i1 a1.1 s1 k1 ++ (twW g a0 u0 ++ (twW g a1 u1 ++ (raW g ar ad ++ (rgW g ad cs 20)))))))))) := hD
      have hP := sp_P_perm (w2 := xoW x0 aN aT ap aB.1 ai (nI (s_sd (t, z))) ++ (twW g aN un ++ (twW g aT u2 ++ (bkW g aB ub ++ (poW ap ar (nI nx) (nI (s_pz (t, z))) ++ (iaW g ai i0 i1 ++ (ioW i0 a0.1 s0 k0 ++ (ioW i1 a1.1 s1 k1 ++ (twW g a0 u0 ++ (twW g a1 u1 ++ (raW g ar ad ++ (rgW g ad cs 20)))))))))))) ((List.Perm.of_eq (by simp only [List.append_assoc])).trans (List.Perm.refl _)) hP
      have hD := sp_D_perm (w2 := xoW x0 aN aT ap aB.1 ai (nI (s_sd (t, z))) ++ (twW g aN un ++ (twW g aT u2 ++ (bkW g aB ub ++ (poW ap ar (nI nx) (nI (s_pz (t, z))) ++ (iaW g ai i0 i1 ++ (ioW i0 a0.1 s0 k0 ++ (ioW i1 a1.1 s1 k1 ++ (twW g a0 u0 ++ (twW g a1 u1 ++ (raW g ar ad ++ (rgW g ad cs 20)))))))))))) ((List.Perm.of_eq (by simp only [List.append_assoc])).trans (List.Perm.refl _)) hD
      exact hend _ _ _ _ _ ((s_sd (t, z)), (s_pz (t, z)), nx, un, u2, ub, s0, k0, s1, k1, u0, u1, cs) dX4_told_164 (⟨(show _ = toldN (t, z) 9 from rfl).trans (o_told_in (by omega)).symm, ⟨⟨rfl, rfl⟩, hR, hRB, hRP, h0, h1⟩⟩) hP hD hS
    · refine lv_tableIn (off := 164) (tgt := 165) hx hb dX4_told_1 (by decide) (by decide) (by decide) (by decide) ?_
      refine lv_aload_n hx hb dX4_told_165 rfl (lv_at hl 0 rfl) ?_
      refine va_get (D := g.1) (ci := 4) (v := .ref aN.1) (C := RX4) (T := TX4) (N := 6) hx hb hts inX4 hown hK.1 hP 0 rfl rfl 0 (by decide) (hts _ (List.mem_of_getElem? (i := 1) rfl)) (fun _ h9 => h9) rfl dX4_told_166 ?_
      refine lv_iconst (v := nI 0) hx hb dX4_told_169 (by decide) ?_
      have hP := sp_P_perm (w2 := (twW g aN un) ++ (xoW x0 aN aT ap aB.1 ai (nI (s_sd (t, z))) ++ (twW g aT ut ++ (bkW g aB ub ++ (poW ap ar (nI nx) (nI (s_pz (t, z))) ++ (iaW g ai i0 i1 ++ (ioW i0 a0.1 s0 k0 ++ (ioW i1 a1.1 s1 k1 ++ (twW g a0 u0 ++ (twW g a1 u1 ++ (raW g ar ad ++ (rgW g ad cs 20)))))))))))) ((List.perm_append_comm_assoc _ _ _)) hP
      have hD := sp_D_perm (w2 := (twW g aN un) ++ (xoW x0 aN aT ap aB.1 ai (nI (s_sd (t, z))) ++ (twW g aT ut ++ (bkW g aB ub ++ (poW ap ar (nI nx) (nI (s_pz (t, z))) ++ (iaW g ai i0 i1 ++ (ioW i0 a0.1 s0 k0 ++ (ioW i1 a1.1 s1 k1 ++ (twW g a0 u0 ++ (twW g a1 u1 ++ (raW g ar ad ++ (rgW g ad cs 20)))))))))))) ((List.perm_append_comm_assoc _ _ _)) hD
      refine sp_vi (n := 1) SF hK hA (c_X3_has l g aN un t hR hI (nI 0)) gX4_told_X3_has rfl rfl rfl (by decide +kernel) rfl ⟨Nat.le_of_ble_eq_true rfl, Nat.le_of_ble_eq_true rfl⟩ 3 0 rfl rfl hP hD hS hl.1 rfl (Nat.le_of_ble_eq_true rfl) dX4_told_170 (fun r9 u9 H locs hb10 hP hD hS => ?_)
      obtain ⟨b10, rfl, hb10⟩ := hb10
      have hP : va_P g.1 vwCl ((twW g aN un) ++ (xoW x0 aN aT ap aB.1 ai (nI (s_sd (t, z))) ++ (twW g aT ut ++ (bkW g aB ub ++ (poW ap ar (nI nx) (nI (s_pz (t, z))) ++ (iaW g ai i0 i1 ++ (ioW i0 a0.1 s0 k0 ++ (ioW i1 a1.1 s1 k1 ++ (twW g a0 u0 ++ (twW g a1 u1 ++ (raW g ar ad ++ (rgW g ad cs 20)))))))))))) H := hP
      have hD : va_D A ((twW g aN un) ++ (xoW x0 aN aT ap aB.1 ai (nI (s_sd (t, z))) ++ (twW g aT ut ++ (bkW g aB ub ++ (poW ap ar (nI nx) (nI (s_pz (t, z))) ++ (iaW g ai i0 i1 ++ (ioW i0 a0.1 s0 k0 ++ (ioW i1 a1.1 s1 k1 ++ (twW g a0 u0 ++ (twW g a1 u1 ++ (raW g ar ad ++ (rgW g ad cs 20)))))))))))) := hD
      have hP := sp_P_perm (w2 := xoW x0 aN aT ap aB.1 ai (nI (s_sd (t, z))) ++ (twW g aN un ++ (twW g aT ut ++ (bkW g aB ub ++ (poW ap ar (nI nx) (nI (s_pz (t, z))) ++ (iaW g ai i0 i1 ++ (ioW i0 a0.1 s0 k0 ++ (ioW i1 a1.1 s1 k1 ++ (twW g a0 u0 ++ (twW g a1 u1 ++ (raW g ar ad ++ (rgW g ad cs 20)))))))))))) ((List.perm_append_comm_assoc _ _ _)) hP
      have hD := sp_D_perm (w2 := xoW x0 aN aT ap aB.1 ai (nI (s_sd (t, z))) ++ (twW g aN un ++ (twW g aT ut ++ (bkW g aB ub ++ (poW ap ar (nI nx) (nI (s_pz (t, z))) ++ (iaW g ai i0 i1 ++ (ioW i0 a0.1 s0 k0 ++ (ioW i1 a1.1 s1 k1 ++ (twW g a0 u0 ++ (twW g a1 u1 ++ (raW g ar ad ++ (rgW g ad cs 20)))))))))))) ((List.perm_append_comm_assoc _ _ _)) hD
      refine lv_if_eq (tgt := 187) hx hb dX4_told_173 (by decide) (fun c10 => ?_) (fun c10 => ?_)
      · have c10 := sp_b0.mp c10
        have hz10 : tn t = 0 := by have := sp_has_jn (j := 0) hn8 (hb10.symm.trans c10); omega
        refine lv_iconst (v := nI 0) hx hb dX4_told_187 (by decide) ?_
        exact hend _ _ _ _ _ ((s_sd (t, z)), (s_pz (t, z)), nx, un, ut, ub, s0, k0, s1, k1, u0, u1, cs) dX4_told_188 (⟨(show _ = toldN (t, z) 10 from by show _ = (if tn t = 0 then 0 else sp_frc t 0); first | rw [if_neg hz10] | (rw [if_pos hz10]; rfl)).trans (o_told_in (by omega)).symm, ⟨⟨rfl, rfl⟩, hR, hRB, hRP, h0, h1⟩⟩) hP hD hS
      · have c10 := sp_b0n.mp c10
        have hz10 : ¬ tn t = 0 := by have := sp_has_j (j := 0) hn8 (by omega) (hb10.symm.trans c10); omega
        refine lv_aload_n hx hb dX4_told_176 rfl (lv_at hl 0 rfl) ?_
        refine va_get (D := g.1) (ci := 4) (v := .ref aN.1) (C := RX4) (T := TX4) (N := 6) hx hb hts inX4 hown hK.1 hP 0 rfl rfl 0 (by decide) (hts _ (List.mem_of_getElem? (i := 1) rfl)) (fun _ h9 => h9) rfl dX4_told_177 ?_
        refine lv_iconst (v := nI 0) hx hb dX4_told_180 (by decide) ?_
        have hP := sp_P_perm (w2 := (twW g aN un) ++ (xoW x0 aN aT ap aB.1 ai (nI (s_sd (t, z))) ++ (twW g aT ut ++ (bkW g aB ub ++ (poW ap ar (nI nx) (nI (s_pz (t, z))) ++ (iaW g ai i0 i1 ++ (ioW i0 a0.1 s0 k0 ++ (ioW i1 a1.1 s1 k1 ++ (twW g a0 u0 ++ (twW g a1 u1 ++ (raW g ar ad ++ (rgW g ad cs 20)))))))))))) ((List.perm_append_comm_assoc _ _ _)) hP
        have hD := sp_D_perm (w2 := (twW g aN un) ++ (xoW x0 aN aT ap aB.1 ai (nI (s_sd (t, z))) ++ (twW g aT ut ++ (bkW g aB ub ++ (poW ap ar (nI nx) (nI (s_pz (t, z))) ++ (iaW g ai i0 i1 ++ (ioW i0 a0.1 s0 k0 ++ (ioW i1 a1.1 s1 k1 ++ (twW g a0 u0 ++ (twW g a1 u1 ++ (raW g ar ad ++ (rgW g ad cs 20)))))))))))) ((List.perm_append_comm_assoc _ _ _)) hD
        refine sp_vi (n := 1) SF hK hA (c_X3_forceUnder l g aN un t hR hI 0 (by omega)) gX4_told_X3_forceUnder rfl rfl rfl (by decide +kernel) rfl ⟨Nat.le_of_ble_eq_true rfl, Nat.le_of_ble_eq_true rfl⟩ 3 0 rfl rfl hP hD hS hl.1 rfl (Nat.le_of_ble_eq_true rfl) dX4_told_181 (fun r9 u9 H locs w2 hP hD hS => ?_)
        subst w2
        have hP : va_P g.1 vwCl ((twW g aN un) ++ (xoW x0 aN aT ap aB.1 ai (nI (s_sd (t, z))) ++ (twW g aT ut ++ (bkW g aB ub ++ (poW ap ar (nI nx) (nI (s_pz (t, z))) ++ (iaW g ai i0 i1 ++ (ioW i0 a0.1 s0 k0 ++ (ioW i1 a1.1 s1 k1 ++ (twW g a0 u0 ++ (twW g a1 u1 ++ (raW g ar ad ++ (rgW g ad cs 20)))))))))))) H := hP
        have hD : va_D A ((twW g aN un) ++ (xoW x0 aN aT ap aB.1 ai (nI (s_sd (t, z))) ++ (twW g aT ut ++ (bkW g aB ub ++ (poW ap ar (nI nx) (nI (s_pz (t, z))) ++ (iaW g ai i0 i1 ++ (ioW i0 a0.1 s0 k0 ++ (ioW i1 a1.1 s1 k1 ++ (twW g a0 u0 ++ (twW g a1 u1 ++ (raW g ar ad ++ (rgW g ad cs 20)))))))))))) := hD
        have hP := sp_P_perm (w2 := xoW x0 aN aT ap aB.1 ai (nI (s_sd (t, z))) ++ (twW g aN un ++ (twW g aT ut ++ (bkW g aB ub ++ (poW ap ar (nI nx) (nI (s_pz (t, z))) ++ (iaW g ai i0 i1 ++ (ioW i0 a0.1 s0 k0 ++ (ioW i1 a1.1 s1 k1 ++ (twW g a0 u0 ++ (twW g a1 u1 ++ (raW g ar ad ++ (rgW g ad cs 20)))))))))))) ((List.perm_append_comm_assoc _ _ _)) hP
        have hD := sp_D_perm (w2 := xoW x0 aN aT ap aB.1 ai (nI (s_sd (t, z))) ++ (twW g aN un ++ (twW g aT ut ++ (bkW g aB ub ++ (poW ap ar (nI nx) (nI (s_pz (t, z))) ++ (iaW g ai i0 i1 ++ (ioW i0 a0.1 s0 k0 ++ (ioW i1 a1.1 s1 k1 ++ (twW g a0 u0 ++ (twW g a1 u1 ++ (raW g ar ad ++ (rgW g ad cs 20)))))))))))) ((List.perm_append_comm_assoc _ _ _)) hD
        refine lv_goto (tgt := 188) hx hb dX4_told_184 (by decide) ?_
        exact hend _ _ _ _ _ ((s_sd (t, z)), (s_pz (t, z)), nx, un, ut, ub, s0, k0, s1, k1, u0, u1, cs) dX4_told_188 (⟨(show _ = toldN (t, z) 10 from by show _ = (if tn t = 0 then 0 else sp_frc t 0); first | rw [if_neg hz10] | (rw [if_pos hz10]; rfl)).trans (o_told_in (by omega)).symm, ⟨⟨rfl, rfl⟩, hR, hRB, hRP, h0, h1⟩⟩) hP hD hS
    · refine lv_tableIn (off := 188) (tgt := 189) hx hb dX4_told_1 (by decide) (by decide) (by decide) (by decide) ?_
      refine lv_aload_n hx hb dX4_told_189 rfl (lv_at hl 0 rfl) ?_
      refine va_get (D := g.1) (ci := 4) (v := .ref aB.1) (C := RX4) (T := TX4) (N := 6) hx hb hts inX4 hown hK.1 hP 0 rfl rfl 3 (by decide) (hts _ (List.mem_of_getElem? (i := 6) rfl)) (fun _ h9 => h9) rfl dX4_told_190 ?_
      refine va_get (D := g.1) (ci := 0) (v := .int ub.2.2) (C := RX0) (T := TX0) (N := 3) hx hb hts inX0 hown hK.1 hP 13 rfl rfl 2 (by decide) (hts _ (List.mem_of_getElem? (i := 7) rfl)) (fun _ h9 => h9) rfl dX4_told_193 ?_
      exact hend _ _ _ _ _ ((s_sd (t, z)), (s_pz (t, z)), nx, un, ut, ub, s0, k0, s1, k1, u0, u1, cs) dX4_told_196 (⟨(show _ = toldN (t, z) 11 from hRB.1).trans (o_told_in (by omega)).symm, ⟨⟨rfl, rfl⟩, hR, hRB, hRP, h0, h1⟩⟩) hP hD hS
    · refine lv_tableIn (off := 196) (tgt := 197) hx hb dX4_told_1 (by decide) (by decide) (by decide) (by decide) ?_
      refine lv_aload_n hx hb dX4_told_197 rfl (lv_at hl 0 rfl) ?_
      refine va_get (D := g.1) (ci := 4) (v := .ref aB.1) (C := RX4) (T := TX4) (N := 6) hx hb hts inX4 hown hK.1 hP 0 rfl rfl 3 (by decide) (hts _ (List.mem_of_getElem? (i := 6) rfl)) (fun _ h9 => h9) rfl dX4_told_198 ?_
      refine lv_aload_n hx hb dX4_told_201 rfl (lv_at hl 0 rfl) ?_
      refine va_get (D := g.1) (ci := 4) (v := .ref aN.1) (C := RX4) (T := TX4) (N := 6) hx hb hts inX4 hown hK.1 hP 0 rfl rfl 0 (by decide) (hts _ (List.mem_of_getElem? (i := 1) rfl)) (fun _ h9 => h9) rfl dX4_told_202 ?_
      have hP := sp_P_perm (w2 := (bkW g aB ub ++ (twW g aN un)) ++ (xoW x0 aN aT ap aB.1 ai (nI (s_sd (t, z))) ++ (twW g aT ut ++ (poW ap ar (nI nx) (nI (s_pz (t, z))) ++ (iaW g ai i0 i1 ++ (ioW i0 a0.1 s0 k0 ++ (ioW i1 a1.1 s1 k1 ++ (twW g a0 u0 ++ (twW g a1 u1 ++ (raW g ar ad ++ (rgW g ad cs 20))))))))))) (((List.Perm.append_left _ (List.Perm.append_left _ (List.perm_append_comm_assoc _ _ _))).trans ((List.Perm.append_left _ (List.perm_append_comm_assoc _ _ _)).trans ((List.perm_append_comm_assoc _ _ _).trans ((List.Perm.append_left _ (List.perm_append_comm_assoc _ _ _)))))).trans (List.Perm.of_eq (by simp only [List.append_assoc]))) hP
      have hD := sp_D_perm (w2 := (bkW g aB ub ++ (twW g aN un)) ++ (xoW x0 aN aT ap aB.1 ai (nI (s_sd (t, z))) ++ (twW g aT ut ++ (poW ap ar (nI nx) (nI (s_pz (t, z))) ++ (iaW g ai i0 i1 ++ (ioW i0 a0.1 s0 k0 ++ (ioW i1 a1.1 s1 k1 ++ (twW g a0 u0 ++ (twW g a1 u1 ++ (raW g ar ad ++ (rgW g ad cs 20))))))))))) (((List.Perm.append_left _ (List.Perm.append_left _ (List.perm_append_comm_assoc _ _ _))).trans ((List.Perm.append_left _ (List.perm_append_comm_assoc _ _ _)).trans ((List.perm_append_comm_assoc _ _ _).trans ((List.Perm.append_left _ (List.perm_append_comm_assoc _ _ _)))))).trans (List.Perm.of_eq (by simp only [List.append_assoc]))) hD
      refine sp_vi (n := 1) SF hK hA (c_X0_firstWrong l g aB ub aN un t hR hI (s_bn (t, z)) (s_bf (t, z)) (s_bl (t, z)) hbn20 (fun k hk => hJ.bf hk) hRB.1 hRB.2.1 hRB.2.2) gX4_told_X0_firstWrong rfl rfl rfl (by decide +kernel) rfl ⟨Nat.le_of_ble_eq_true rfl, Nat.le_of_ble_eq_true rfl⟩ 0 0 rfl rfl hP hD hS hl.1 rfl (Nat.le_of_ble_eq_true rfl) dX4_told_205 (fun r9 u9 H locs w3 hP hD hS => ?_)
      subst w3
      have hP : va_P g.1 vwCl ((bkW g aB ub ++ (twW g aN un)) ++ (xoW x0 aN aT ap aB.1 ai (nI (s_sd (t, z))) ++ (twW g aT ut ++ (poW ap ar (nI nx) (nI (s_pz (t, z))) ++ (iaW g ai i0 i1 ++ (ioW i0 a0.1 s0 k0 ++ (ioW i1 a1.1 s1 k1 ++ (twW g a0 u0 ++ (twW g a1 u1 ++ (raW g ar ad ++ (rgW g ad cs 20))))))))))) H := hP
      have hD : va_D A ((bkW g aB ub ++ (twW g aN un)) ++ (xoW x0 aN aT ap aB.1 ai (nI (s_sd (t, z))) ++ (twW g aT ut ++ (poW ap ar (nI nx) (nI (s_pz (t, z))) ++ (iaW g ai i0 i1 ++ (ioW i0 a0.1 s0 k0 ++ (ioW i1 a1.1 s1 k1 ++ (twW g a0 u0 ++ (twW g a1 u1 ++ (raW g ar ad ++ (rgW g ad cs 20))))))))))) := hD
      have hP := sp_P_perm (w2 := xoW x0 aN aT ap aB.1 ai (nI (s_sd (t, z))) ++ (twW g aN un ++ (twW g aT ut ++ (bkW g aB ub ++ (poW ap ar (nI nx) (nI (s_pz (t, z))) ++ (iaW g ai i0 i1 ++ (ioW i0 a0.1 s0 k0 ++ (ioW i1 a1.1 s1 k1 ++ (twW g a0 u0 ++ (twW g a1 u1 ++ (raW g ar ad ++ (rgW g ad cs 20)))))))))))) ((List.Perm.of_eq (by simp only [List.append_assoc])).trans ((List.Perm.append_left _ (List.perm_append_comm_assoc _ _ _)).trans ((List.perm_append_comm_assoc _ _ _).trans ((List.Perm.append_left _ (List.perm_append_comm_assoc _ _ _)).trans ((List.Perm.append_left _ (List.Perm.append_left _ (List.perm_append_comm_assoc _ _ _)))))))) hP
      have hD := sp_D_perm (w2 := xoW x0 aN aT ap aB.1 ai (nI (s_sd (t, z))) ++ (twW g aN un ++ (twW g aT ut ++ (bkW g aB ub ++ (poW ap ar (nI nx) (nI (s_pz (t, z))) ++ (iaW g ai i0 i1 ++ (ioW i0 a0.1 s0 k0 ++ (ioW i1 a1.1 s1 k1 ++ (twW g a0 u0 ++ (twW g a1 u1 ++ (raW g ar ad ++ (rgW g ad cs 20)))))))))))) ((List.Perm.of_eq (by simp only [List.append_assoc])).trans ((List.Perm.append_left _ (List.perm_append_comm_assoc _ _ _)).trans ((List.perm_append_comm_assoc _ _ _).trans ((List.Perm.append_left _ (List.perm_append_comm_assoc _ _ _)).trans ((List.Perm.append_left _ (List.Perm.append_left _ (List.perm_append_comm_assoc _ _ _)))))))) hD
      exact hend _ _ _ _ _ ((s_sd (t, z)), (s_pz (t, z)), nx, un, ut, ub, s0, k0, s1, k1, u0, u1, cs) dX4_told_208 (⟨(show _ = toldN (t, z) 12 from rfl).trans (o_told_in (by omega)).symm, ⟨⟨rfl, rfl⟩, hR, hRB, hRP, h0, h1⟩⟩) hP hD hS
    · refine lv_tableIn (off := 208) (tgt := 209) hx hb dX4_told_1 (by decide) (by decide) (by decide) (by decide) ?_
      refine lv_aload_n hx hb dX4_told_209 rfl (lv_at hl 0 rfl) ?_
      refine va_get (D := g.1) (ci := 4) (v := .ref ap) (C := RX4) (T := TX4) (N := 6) hx hb hts inX4 hown hK.1 hP 0 rfl rfl 2 (by decide) (hts _ (List.mem_of_getElem? (i := 8) rfl)) (fun _ h9 => h9) rfl dX4_told_210 ?_
      refine va_get (D := g.1) (ci := 2) (v := .int (nI (s_pz (t, z)))) (C := RX2) (T := TX2) (N := 3) hx hb hts inX2 hown hK.1 hP 16 rfl rfl 2 (by decide) (hts _ (List.mem_of_getElem? (i := 9) rfl)) (fun _ h9 => h9) rfl dX4_told_213 ?_
      exact hend _ _ _ _ _ ((s_sd (t, z)), (s_pz (t, z)), nx, un, ut, ub, s0, k0, s1, k1, u0, u1, cs) dX4_told_216 (⟨(show _ = toldN (t, z) 13 from rfl).trans (o_told_in (by omega)).symm, ⟨⟨rfl, rfl⟩, hR, hRB, hRP, h0, h1⟩⟩) hP hD hS
  · refine lv_tableOut (tgt := 217) hx hb dX4_told_1 (by omega) (by decide) ?_
    refine lv_ldc (v := (-1000000002)) hx hb hown (hts _ (List.mem_of_getElem? (i := 10) rfl)) dX4_told_217 ?_
    exact hend _ _ _ _ _ ((s_sd (t, z)), (s_pz (t, z)), nx, un, ut, ub, s0, k0, s1, k1, u0, u1, cs) dX4_told_219 (⟨(o_told_out hsw).symm, ⟨⟨rfl, rfl⟩, hR, hRB, hRP, h0, h1⟩⟩) hP hD hS

set_option maxHeartbeats 4000000 in
set_option maxRecDepth 100000 in
theorem c_X4_floor (l : Launch) (g : sp_G) (K : sp_AD) (c : sp_C0) (x : sp_S) (hX : sp_C c x) (B : Nat) (hJ : sp_J x B) (hB : B ≤ 150000) (f0 w0 : Int32) : sp_CI l g yX4_floor wsX4_floor ({ frames := 6, cells := 0, slots := 0, locals := 142 }) [.ref K.1, .int f0, .int w0] (xW g K c) (fun r (c : sp_C0) => r = o_floor (s_now x) f0 w0 ∧ sp_C c x) (fun c => xW g K c) := by
  obtain ⟨x0, aN, aT, aB, ap, ai, i0, i1, a0, a1, ar, ad⟩ := K
  obtain ⟨sd, pz, nx, un, ut, ub, s0, k0, s1, k1, u0, u1, cs⟩ := c
  obtain ⟨t, z⟩ := x
  obtain ⟨⟨hsd, hpz⟩, hR, hRB, hRP, h0, h1⟩ := hX
  dsimp only at hsd hpz hR hRB hRP h0 h1
  subst hsd
  subst hpz
  have hR : sp_R un t := hR
  have hI : sp_I t := hJ.now
  have hn8 := hI.n
  have hdB : td t ≤ B := hJ.d
  have hpz20 := hJ.pz
  have hnx := hRP.1
  have hbn20 := hJ.bn
  refine sp_CI.of (cc := cX4_floor) (maxL := 3) (by decide) rfl (Nat.le_of_ble_eq_true rfl) ?_
  intro p e s m below meth c Q A ls SF hK hP hD hA hl hend
  have hx := SF.1
  have hb := SF.2.1
  have hown : s.vm.findClass RX4 = some m.cls := SF.2.2.2.1
  have hts := SF.2.2.2.2
  have hS : va_S A s.heap s.heap [] := va_S.rf
  have inX4 : ∀ w ∈ wsX40, w ∈ wsX4_floor := fun w h => List.mem_cons_of_mem _ (List.mem_append_left _ (List.mem_append_right _ h))
  have inX3 : ∀ w ∈ wsX30, w ∈ wsX4_floor := fun w h => List.mem_cons_of_mem _ (List.mem_append_right _ h)
  have hl : lv_has ls 3 [(0, .ref x0), (1, .int f0), (2, .int w0)] := hl
  have hP : va_P g.1 vwCl (xoW x0 aN aT ap aB.1 ai (nI (s_sd (t, z))) ++ (twW g aN un ++ (twW g aT ut ++ (bkW g aB ub ++ (poW ap ar (nI nx) (nI (s_pz (t, z))) ++ (iaW g ai i0 i1 ++ (ioW i0 a0.1 s0 k0 ++ (ioW i1 a1.1 s1 k1 ++ (twW g a0 u0 ++ (twW g a1 u1 ++ (raW g ar ad ++ (rgW g ad cs 20)))))))))))) s.heap := hP
  have hD : va_D A (xoW x0 aN aT ap aB.1 ai (nI (s_sd (t, z))) ++ (twW g aN un ++ (twW g aT ut ++ (bkW g aB ub ++ (poW ap ar (nI nx) (nI (s_pz (t, z))) ++ (iaW g ai i0 i1 ++ (ioW i0 a0.1 s0 k0 ++ (ioW i1 a1.1 s1 k1 ++ (twW g a0 u0 ++ (twW g a1 u1 ++ (raW g ar ad ++ (rgW g ad cs 20)))))))))))) := hD
  refine lv_aload_n hx hb dX4_floor_0 rfl (lv_at hl 0 rfl) ?_
  refine va_get (D := g.1) (ci := 4) (v := .ref aN.1) (C := RX4) (T := TX4) (N := 6) hx hb hts inX4 hown hK.1 hP 0 rfl rfl 0 (by decide) (hts _ (List.mem_of_getElem? (i := 1) rfl)) (fun _ h9 => h9) rfl dX4_floor_1 ?_
  refine lv_iload_n hx hb dX4_floor_4 rfl (lv_at hl 1 rfl) ?_
  have hP := sp_P_perm (w2 := (twW g aN un) ++ (xoW x0 aN aT ap aB.1 ai (nI (s_sd (t, z))) ++ (twW g aT ut ++ (bkW g aB ub ++ (poW ap ar (nI nx) (nI (s_pz (t, z))) ++ (iaW g ai i0 i1 ++ (ioW i0 a0.1 s0 k0 ++ (ioW i1 a1.1 s1 k1 ++ (twW g a0 u0 ++ (twW g a1 u1 ++ (raW g ar ad ++ (rgW g ad cs 20)))))))))))) ((List.perm_append_comm_assoc _ _ _)) hP
  have hD := sp_D_perm (w2 := (twW g aN un) ++ (xoW x0 aN aT ap aB.1 ai (nI (s_sd (t, z))) ++ (twW g aT ut ++ (bkW g aB ub ++ (poW ap ar (nI nx) (nI (s_pz (t, z))) ++ (iaW g ai i0 i1 ++ (ioW i0 a0.1 s0 k0 ++ (ioW i1 a1.1 s1 k1 ++ (twW g a0 u0 ++ (twW g a1 u1 ++ (raW g ar ad ++ (rgW g ad cs 20)))))))))))) ((List.perm_append_comm_assoc _ _ _)) hD
  refine sp_vi (n := 1) SF hK hA (c_X3_has l g aN un t hR hI f0) gX4_floor_X3_has rfl rfl rfl (by decide +kernel) rfl ⟨Nat.le_of_ble_eq_true rfl, Nat.le_of_ble_eq_true rfl⟩ 3 0 rfl rfl hP hD hS hl.1 rfl (Nat.le_of_ble_eq_true rfl) dX4_floor_5 (fun r9 u9 H locs hbb hP hD hS => ?_)
  obtain ⟨bb, rfl, hbb⟩ := hbb
  have hP : va_P g.1 vwCl ((twW g aN un) ++ (xoW x0 aN aT ap aB.1 ai (nI (s_sd (t, z))) ++ (twW g aT ut ++ (bkW g aB ub ++ (poW ap ar (nI nx) (nI (s_pz (t, z))) ++ (iaW g ai i0 i1 ++ (ioW i0 a0.1 s0 k0 ++ (ioW i1 a1.1 s1 k1 ++ (twW g a0 u0 ++ (twW g a1 u1 ++ (raW g ar ad ++ (rgW g ad cs 20)))))))))))) H := hP
  have hD : va_D A ((twW g aN un) ++ (xoW x0 aN aT ap aB.1 ai (nI (s_sd (t, z))) ++ (twW g aT ut ++ (bkW g aB ub ++ (poW ap ar (nI nx) (nI (s_pz (t, z))) ++ (iaW g ai i0 i1 ++ (ioW i0 a0.1 s0 k0 ++ (ioW i1 a1.1 s1 k1 ++ (twW g a0 u0 ++ (twW g a1 u1 ++ (raW g ar ad ++ (rgW g ad cs 20)))))))))))) := hD
  have hP := sp_P_perm (w2 := xoW x0 aN aT ap aB.1 ai (nI (s_sd (t, z))) ++ (twW g aN un ++ (twW g aT ut ++ (bkW g aB ub ++ (poW ap ar (nI nx) (nI (s_pz (t, z))) ++ (iaW g ai i0 i1 ++ (ioW i0 a0.1 s0 k0 ++ (ioW i1 a1.1 s1 k1 ++ (twW g a0 u0 ++ (twW g a1 u1 ++ (raW g ar ad ++ (rgW g ad cs 20)))))))))))) ((List.perm_append_comm_assoc _ _ _)) hP
  have hD := sp_D_perm (w2 := xoW x0 aN aT ap aB.1 ai (nI (s_sd (t, z))) ++ (twW g aN un ++ (twW g aT ut ++ (bkW g aB ub ++ (poW ap ar (nI nx) (nI (s_pz (t, z))) ++ (iaW g ai i0 i1 ++ (ioW i0 a0.1 s0 k0 ++ (ioW i1 a1.1 s1 k1 ++ (twW g a0 u0 ++ (twW g a1 u1 ++ (raW g ar ad ++ (rgW g ad cs 20)))))))))))) ((List.perm_append_comm_assoc _ _ _)) hD
  refine lv_if_ne (tgt := 14) hx hb dX4_floor_8 (by decide) (fun c1 => ?_) (fun c1 => ?_)
  · have c1 := sp_b0n.mp c1
    obtain ⟨j, hj, rfl⟩ := sp_has_t (hbb.symm.trans c1) hn8
    refine lv_iload_n hx hb dX4_floor_14 rfl (lv_at hl 2 rfl) ?_
    by_cases hsw : 0 ≤ w0.toInt ∧ w0.toInt ≤ 10
    · obtain ⟨k, hk, rfl⟩ := swI_ex (m := 10) hsw (by omega)
      rcases (show k = 0 ∨ k = 1 ∨ k = 2 ∨ k = 3 ∨ k = 4 ∨ k = 5 ∨ k = 6 ∨ k = 7 ∨ k = 8 ∨ k = 9 ∨ k = 10 by omega) with rfl | rfl | rfl | rfl | rfl | rfl | rfl | rfl | rfl | rfl | rfl
      · refine lv_tableIn (off := 57) (tgt := 72) hx hb dX4_floor_15 (by decide) (by decide) (by decide) (by decide) ?_
        refine lv_aload_n hx hb dX4_floor_72 rfl (lv_at hl 0 rfl) ?_
        refine va_get (D := g.1) (ci := 4) (v := .ref aN.1) (C := RX4) (T := TX4) (N := 6) hx hb hts inX4 hown hK.1 hP 0 rfl rfl 0 (by decide) (hts _ (List.mem_of_getElem? (i := 1) rfl)) (fun _ h9 => h9) rfl dX4_floor_73 ?_
        refine lv_iload_n hx hb dX4_floor_76 rfl (lv_at hl 1 rfl) ?_
        have hP := sp_P_perm (w2 := (twW g aN un) ++ (xoW x0 aN aT ap aB.1 ai (nI (s_sd (t, z))) ++ (twW g aT ut ++ (bkW g aB ub ++ (poW ap ar (nI nx) (nI (s_pz (t, z))) ++ (iaW g ai i0 i1 ++ (ioW i0 a0.1 s0 k0 ++ (ioW i1 a1.1 s1 k1 ++ (twW g a0 u0 ++ (twW g a1 u1 ++ (raW g ar ad ++ (rgW g ad cs 20)))))))))))) ((List.perm_append_comm_assoc _ _ _)) hP
        have hD := sp_D_perm (w2 := (twW g aN un) ++ (xoW x0 aN aT ap aB.1 ai (nI (s_sd (t, z))) ++ (twW g aT ut ++ (bkW g aB ub ++ (poW ap ar (nI nx) (nI (s_pz (t, z))) ++ (iaW g ai i0 i1 ++ (ioW i0 a0.1 s0 k0 ++ (ioW i1 a1.1 s1 k1 ++ (twW g a0 u0 ++ (twW g a1 u1 ++ (raW g ar ad ++ (rgW g ad cs 20)))))))))))) ((List.perm_append_comm_assoc _ _ _)) hD
        refine sp_vi (n := 1) SF hK hA (c_X3_ageOf l g aN un t hR hI j hj) gX4_floor_X3_ageOf rfl rfl rfl (by decide +kernel) rfl ⟨Nat.le_of_ble_eq_true rfl, Nat.le_of_ble_eq_true rfl⟩ 3 0 rfl rfl hP hD hS hl.1 rfl (Nat.le_of_ble_eq_true rfl) dX4_floor_77 (fun r9 u9 H locs w1 hP hD hS => ?_)
        subst w1
        have hP : va_P g.1 vwCl ((twW g aN un) ++ (xoW x0 aN aT ap aB.1 ai (nI (s_sd (t, z))) ++ (twW g aT ut ++ (bkW g aB ub ++ (poW ap ar (nI nx) (nI (s_pz (t, z))) ++ (iaW g ai i0 i1 ++ (ioW i0 a0.1 s0 k0 ++ (ioW i1 a1.1 s1 k1 ++ (twW g a0 u0 ++ (twW g a1 u1 ++ (raW g ar ad ++ (rgW g ad cs 20)))))))))))) H := hP
        have hD : va_D A ((twW g aN un) ++ (xoW x0 aN aT ap aB.1 ai (nI (s_sd (t, z))) ++ (twW g aT ut ++ (bkW g aB ub ++ (poW ap ar (nI nx) (nI (s_pz (t, z))) ++ (iaW g ai i0 i1 ++ (ioW i0 a0.1 s0 k0 ++ (ioW i1 a1.1 s1 k1 ++ (twW g a0 u0 ++ (twW g a1 u1 ++ (raW g ar ad ++ (rgW g ad cs 20)))))))))))) := hD
        have hP := sp_P_perm (w2 := xoW x0 aN aT ap aB.1 ai (nI (s_sd (t, z))) ++ (twW g aN un ++ (twW g aT ut ++ (bkW g aB ub ++ (poW ap ar (nI nx) (nI (s_pz (t, z))) ++ (iaW g ai i0 i1 ++ (ioW i0 a0.1 s0 k0 ++ (ioW i1 a1.1 s1 k1 ++ (twW g a0 u0 ++ (twW g a1 u1 ++ (raW g ar ad ++ (rgW g ad cs 20)))))))))))) ((List.perm_append_comm_assoc _ _ _)) hP
        have hD := sp_D_perm (w2 := xoW x0 aN aT ap aB.1 ai (nI (s_sd (t, z))) ++ (twW g aN un ++ (twW g aT ut ++ (bkW g aB ub ++ (poW ap ar (nI nx) (nI (s_pz (t, z))) ++ (iaW g ai i0 i1 ++ (ioW i0 a0.1 s0 k0 ++ (ioW i1 a1.1 s1 k1 ++ (twW g a0 u0 ++ (twW g a1 u1 ++ (raW g ar ad ++ (rgW g ad cs 20)))))))))))) ((List.perm_append_comm_assoc _ _ _)) hD
        exact hend _ _ _ _ _ ((s_sd (t, z)), (s_pz (t, z)), nx, un, ut, ub, s0, k0, s1, k1, u0, u1, cs) dX4_floor_80 (⟨(show _ = floorN t j 0 from rfl).trans (o_floor_in hn8 hj (by omega)).symm, ⟨⟨rfl, rfl⟩, hR, hRB, hRP, h0, h1⟩⟩) hP hD hS
      · refine lv_tableIn (off := 66) (tgt := 81) hx hb dX4_floor_15 (by decide) (by decide) (by decide) (by decide) ?_
        refine lv_aload_n hx hb dX4_floor_81 rfl (lv_at hl 0 rfl) ?_
        refine va_get (D := g.1) (ci := 4) (v := .ref aN.1) (C := RX4) (T := TX4) (N := 6) hx hb hts inX4 hown hK.1 hP 0 rfl rfl 0 (by decide) (hts _ (List.mem_of_getElem? (i := 1) rfl)) (fun _ h9 => h9) rfl dX4_floor_82 ?_
        refine va_get (D := g.1) (ci := 3) (v := .ref aN.2.2.2.1) (C := RX3) (T := TX3) (N := 8) hx hb hts inX3 hown hK.1 hP 1 rfl rfl 2 (by decide) (hts _ (List.mem_of_getElem? (i := 3) rfl)) (fun _ h9 => h9) rfl dX4_floor_85 ?_
        refine lv_iload_n hx hb dX4_floor_88 rfl (lv_at hl 1 rfl) ?_
        refine va_iald hx hb hK.1 hP 4 0 rfl rfl (vp_in_nI (by omega) (by omega)) dX4_floor_89 ?_
        refine sp_top (y := un.2.2.1 j) (congrArg un.2.2.1 (sp_c8 (k := j) (by omega))) ?_
        refine sp_top (y := nI (tsl t j)) (hR.sl hj) ?_
        exact hend _ _ _ _ _ ((s_sd (t, z)), (s_pz (t, z)), nx, un, ut, ub, s0, k0, s1, k1, u0, u1, cs) dX4_floor_90 (⟨(show _ = floorN t j 1 from rfl).trans (o_floor_in hn8 hj (by omega)).symm, ⟨⟨rfl, rfl⟩, hR, hRB, hRP, h0, h1⟩⟩) hP hD hS
      · refine lv_tableIn (off := 76) (tgt := 91) hx hb dX4_floor_15 (by decide) (by decide) (by decide) (by decide) ?_
        refine lv_aload_n hx hb dX4_floor_91 rfl (lv_at hl 0 rfl) ?_
        refine va_get (D := g.1) (ci := 4) (v := .ref aN.1) (C := RX4) (T := TX4) (N := 6) hx hb hts inX4 hown hK.1 hP 0 rfl rfl 0 (by decide) (hts _ (List.mem_of_getElem? (i := 1) rfl)) (fun _ h9 => h9) rfl dX4_floor_92 ?_
        refine lv_iload_n hx hb dX4_floor_95 rfl (lv_at hl 1 rfl) ?_
        have hP := sp_P_perm (w2 := (twW g aN un) ++ (xoW x0 aN aT ap aB.1 ai (nI (s_sd (t, z))) ++ (twW g aT ut ++ (bkW g aB ub ++ (poW ap ar (nI nx) (nI (s_pz (t, z))) ++ (iaW g ai i0 i1 ++ (ioW i0 a0.1 s0 k0 ++ (ioW i1 a1.1 s1 k1 ++ (twW g a0 u0 ++ (twW g a1 u1 ++ (raW g ar ad ++ (rgW g ad cs 20)))))))))))) ((List.perm_append_comm_assoc _ _ _)) hP
        have hD := sp_D_perm (w2 := (twW g aN un) ++ (xoW x0 aN aT ap aB.1 ai (nI (s_sd (t, z))) ++ (twW g aT ut ++ (bkW g aB ub ++ (poW ap ar (nI nx) (nI (s_pz (t, z))) ++ (iaW g ai i0 i1 ++ (ioW i0 a0.1 s0 k0 ++ (ioW i1 a1.1 s1 k1 ++ (twW g a0 u0 ++ (twW g a1 u1 ++ (raW g ar ad ++ (rgW g ad cs 20)))))))))))) ((List.perm_append_comm_assoc _ _ _)) hD
        refine sp_vi (n := 1) SF hK hA (c_X3_strengthOf l g aN un t hR hI j hj) gX4_floor_X3_strengthOf rfl rfl rfl (by decide +kernel) rfl ⟨Nat.le_of_ble_eq_true rfl, Nat.le_of_ble_eq_true rfl⟩ 3 0 rfl rfl hP hD hS hl.1 rfl (Nat.le_of_ble_eq_true rfl) dX4_floor_96 (fun r9 u9 H locs w2 hP hD hS => ?_)
        subst w2
        have hP : va_P g.1 vwCl ((twW g aN un) ++ (xoW x0 aN aT ap aB.1 ai (nI (s_sd (t, z))) ++ (twW g aT ut ++ (bkW g aB ub ++ (poW ap ar (nI nx) (nI (s_pz (t, z))) ++ (iaW g ai i0 i1 ++ (ioW i0 a0.1 s0 k0 ++ (ioW i1 a1.1 s1 k1 ++ (twW g a0 u0 ++ (twW g a1 u1 ++ (raW g ar ad ++ (rgW g ad cs 20)))))))))))) H := hP
        have hD : va_D A ((twW g aN un) ++ (xoW x0 aN aT ap aB.1 ai (nI (s_sd (t, z))) ++ (twW g aT ut ++ (bkW g aB ub ++ (poW ap ar (nI nx) (nI (s_pz (t, z))) ++ (iaW g ai i0 i1 ++ (ioW i0 a0.1 s0 k0 ++ (ioW i1 a1.1 s1 k1 ++ (twW g a0 u0 ++ (twW g a1 u1 ++ (raW g ar ad ++ (rgW g ad cs 20)))))))))))) := hD
        have hP := sp_P_perm (w2 := xoW x0 aN aT ap aB.1 ai (nI (s_sd (t, z))) ++ (twW g aN un ++ (twW g aT ut ++ (bkW g aB ub ++ (poW ap ar (nI nx) (nI (s_pz (t, z))) ++ (iaW g ai i0 i1 ++ (ioW i0 a0.1 s0 k0 ++ (ioW i1 a1.1 s1 k1 ++ (twW g a0 u0 ++ (twW g a1 u1 ++ (raW g ar ad ++ (rgW g ad cs 20)))))))))))) ((List.perm_append_comm_assoc _ _ _)) hP
        have hD := sp_D_perm (w2 := xoW x0 aN aT ap aB.1 ai (nI (s_sd (t, z))) ++ (twW g aN un ++ (twW g aT ut ++ (bkW g aB ub ++ (poW ap ar (nI nx) (nI (s_pz (t, z))) ++ (iaW g ai i0 i1 ++ (ioW i0 a0.1 s0 k0 ++ (ioW i1 a1.1 s1 k1 ++ (twW g a0 u0 ++ (twW g a1 u1 ++ (raW g ar ad ++ (rgW g ad cs 20)))))))))))) ((List.perm_append_comm_assoc _ _ _)) hD
        exact hend _ _ _ _ _ ((s_sd (t, z)), (s_pz (t, z)), nx, un, ut, ub, s0, k0, s1, k1, u0, u1, cs) dX4_floor_99 (⟨(show _ = floorN t j 2 from rfl).trans (o_floor_in hn8 hj (by omega)).symm, ⟨⟨rfl, rfl⟩, hR, hRB, hRP, h0, h1⟩⟩) hP hD hS
      · refine lv_tableIn (off := 85) (tgt := 100) hx hb dX4_floor_15 (by decide) (by decide) (by decide) (by decide) ?_
        refine lv_aload_n hx hb dX4_floor_100 rfl (lv_at hl 0 rfl) ?_
        refine va_get (D := g.1) (ci := 4) (v := .ref aN.1) (C := RX4) (T := TX4) (N := 6) hx hb hts inX4 hown hK.1 hP 0 rfl rfl 0 (by decide) (hts _ (List.mem_of_getElem? (i := 1) rfl)) (fun _ h9 => h9) rfl dX4_floor_101 ?_
        refine va_get (D := g.1) (ci := 3) (v := .ref aN.2.2.2.2.1) (C := RX3) (T := TX3) (N := 8) hx hb hts inX3 hown hK.1 hP 1 rfl rfl 3 (by decide) (hts _ (List.mem_of_getElem? (i := 4) rfl)) (fun _ h9 => h9) rfl dX4_floor_104 ?_
        refine lv_iload_n hx hb dX4_floor_107 rfl (lv_at hl 1 rfl) ?_
        refine va_iald hx hb hK.1 hP 5 0 rfl rfl (vp_in_nI (by omega) (by omega)) dX4_floor_108 ?_
        refine sp_top (y := un.2.2.2.1 j) (congrArg un.2.2.2.1 (sp_c8 (k := j) (by omega))) ?_
        refine sp_top (y := tlo t j) (hR.lo hj) ?_
        refine lv_sipush (v := nI 1000) hx hb dX4_floor_109 (by decide) ?_
        refine lv_iadd hx hb dX4_floor_112 ?_
        exact hend _ _ _ _ _ ((s_sd (t, z)), (s_pz (t, z)), nx, un, ut, ub, s0, k0, s1, k1, u0, u1, cs) dX4_floor_113 (⟨(show _ = floorN t j 3 from rfl).trans (o_floor_in hn8 hj (by omega)).symm, ⟨⟨rfl, rfl⟩, hR, hRB, hRP, h0, h1⟩⟩) hP hD hS
      · refine lv_tableIn (off := 99) (tgt := 114) hx hb dX4_floor_15 (by decide) (by decide) (by decide) (by decide) ?_
        refine lv_aload_n hx hb dX4_floor_114 rfl (lv_at hl 0 rfl) ?_
        refine va_get (D := g.1) (ci := 4) (v := .ref aN.1) (C := RX4) (T := TX4) (N := 6) hx hb hts inX4 hown hK.1 hP 0 rfl rfl 0 (by decide) (hts _ (List.mem_of_getElem? (i := 1) rfl)) (fun _ h9 => h9) rfl dX4_floor_115 ?_
        refine lv_iload_n hx hb dX4_floor_118 rfl (lv_at hl 1 rfl) ?_
        have hP := sp_P_perm (w2 := (twW g aN un) ++ (xoW x0 aN aT ap aB.1 ai (nI (s_sd (t, z))) ++ (twW g aT ut ++ (bkW g aB ub ++ (poW ap ar (nI nx) (nI (s_pz (t, z))) ++ (iaW g ai i0 i1 ++ (ioW i0 a0.1 s0 k0 ++ (ioW i1 a1.1 s1 k1 ++ (twW g a0 u0 ++ (twW g a1 u1 ++ (raW g ar ad ++ (rgW g ad cs 20)))))))))))) ((List.perm_append_comm_assoc _ _ _)) hP
        have hD := sp_D_perm (w2 := (twW g aN un) ++ (xoW x0 aN aT ap aB.1 ai (nI (s_sd (t, z))) ++ (twW g aT ut ++ (bkW g aB ub ++ (poW ap ar (nI nx) (nI (s_pz (t, z))) ++ (iaW g ai i0 i1 ++ (ioW i0 a0.1 s0 k0 ++ (ioW i1 a1.1 s1 k1 ++ (twW g a0 u0 ++ (twW g a1 u1 ++ (raW g ar ad ++ (rgW g ad cs 20)))))))))))) ((List.perm_append_comm_assoc _ _ _)) hD
        refine sp_vi (n := 1) SF hK hA (c_X3_isPropped l g aN un t hR hI j (by omega)) gX4_floor_X3_isPropped rfl rfl rfl (by decide +kernel) rfl ⟨Nat.le_of_ble_eq_true rfl, Nat.le_of_ble_eq_true rfl⟩ 3 0 rfl rfl hP hD hS hl.1 rfl (Nat.le_of_ble_eq_true rfl) dX4_floor_119 (fun r9 u9 H locs hb4 hP hD hS => ?_)
        obtain ⟨b4, rfl, hb4⟩ := hb4
        have hP : va_P g.1 vwCl ((twW g aN un) ++ (xoW x0 aN aT ap aB.1 ai (nI (s_sd (t, z))) ++ (twW g aT ut ++ (bkW g aB ub ++ (poW ap ar (nI nx) (nI (s_pz (t, z))) ++ (iaW g ai i0 i1 ++ (ioW i0 a0.1 s0 k0 ++ (ioW i1 a1.1 s1 k1 ++ (twW g a0 u0 ++ (twW g a1 u1 ++ (raW g ar ad ++ (rgW g ad cs 20)))))))))))) H := hP
        have hD : va_D A ((twW g aN un) ++ (xoW x0 aN aT ap aB.1 ai (nI (s_sd (t, z))) ++ (twW g aT ut ++ (bkW g aB ub ++ (poW ap ar (nI nx) (nI (s_pz (t, z))) ++ (iaW g ai i0 i1 ++ (ioW i0 a0.1 s0 k0 ++ (ioW i1 a1.1 s1 k1 ++ (twW g a0 u0 ++ (twW g a1 u1 ++ (raW g ar ad ++ (rgW g ad cs 20)))))))))))) := hD
        have hP := sp_P_perm (w2 := xoW x0 aN aT ap aB.1 ai (nI (s_sd (t, z))) ++ (twW g aN un ++ (twW g aT ut ++ (bkW g aB ub ++ (poW ap ar (nI nx) (nI (s_pz (t, z))) ++ (iaW g ai i0 i1 ++ (ioW i0 a0.1 s0 k0 ++ (ioW i1 a1.1 s1 k1 ++ (twW g a0 u0 ++ (twW g a1 u1 ++ (raW g ar ad ++ (rgW g ad cs 20)))))))))))) ((List.perm_append_comm_assoc _ _ _)) hP
        have hD := sp_D_perm (w2 := xoW x0 aN aT ap aB.1 ai (nI (s_sd (t, z))) ++ (twW g aN un ++ (twW g aT ut ++ (bkW g aB ub ++ (poW ap ar (nI nx) (nI (s_pz (t, z))) ++ (iaW g ai i0 i1 ++ (ioW i0 a0.1 s0 k0 ++ (ioW i1 a1.1 s1 k1 ++ (twW g a0 u0 ++ (twW g a1 u1 ++ (raW g ar ad ++ (rgW g ad cs 20)))))))))))) ((List.perm_append_comm_assoc _ _ _)) hD
        refine lv_if_eq (tgt := 129) hx hb dX4_floor_122 (by decide) (fun c4 => ?_) (fun c4 => ?_)
        · have c4 := sp_b0.mp c4
          refine lv_iconst (v := nI 0) hx hb dX4_floor_129 (by decide) ?_
          exact hend _ _ _ _ _ ((s_sd (t, z)), (s_pz (t, z)), nx, un, ut, ub, s0, k0, s1, k1, u0, u1, cs) dX4_floor_130 (⟨(show _ = floorN t j 4 from by show _ = bI (sp_pp t j); rw [← hb4, c4]; rfl).trans (o_floor_in hn8 hj (by omega)).symm, ⟨⟨rfl, rfl⟩, hR, hRB, hRP, h0, h1⟩⟩) hP hD hS
        · have c4 := sp_b0n.mp c4
          refine lv_iconst (v := nI 1) hx hb dX4_floor_125 (by decide) ?_
          refine lv_goto (tgt := 130) hx hb dX4_floor_126 (by decide) ?_
          exact hend _ _ _ _ _ ((s_sd (t, z)), (s_pz (t, z)), nx, un, ut, ub, s0, k0, s1, k1, u0, u1, cs) dX4_floor_130 (⟨(show _ = floorN t j 4 from by show _ = bI (sp_pp t j); rw [← hb4, c4]; rfl).trans (o_floor_in hn8 hj (by omega)).symm, ⟨⟨rfl, rfl⟩, hR, hRB, hRP, h0, h1⟩⟩) hP hD hS
      · refine lv_tableIn (off := 116) (tgt := 131) hx hb dX4_floor_15 (by decide) (by decide) (by decide) (by decide) ?_
        refine lv_aload_n hx hb dX4_floor_131 rfl (lv_at hl 0 rfl) ?_
        refine va_get (D := g.1) (ci := 4) (v := .ref aN.1) (C := RX4) (T := TX4) (N := 6) hx hb hts inX4 hown hK.1 hP 0 rfl rfl 0 (by decide) (hts _ (List.mem_of_getElem? (i := 1) rfl)) (fun _ h9 => h9) rfl dX4_floor_132 ?_
        refine lv_iload_n hx hb dX4_floor_135 rfl (lv_at hl 1 rfl) ?_
        have hP := sp_P_perm (w2 := (twW g aN un) ++ (xoW x0 aN aT ap aB.1 ai (nI (s_sd (t, z))) ++ (twW g aT ut ++ (bkW g aB ub ++ (poW ap ar (nI nx) (nI (s_pz (t, z))) ++ (iaW g ai i0 i1 ++ (ioW i0 a0.1 s0 k0 ++ (ioW i1 a1.1 s1 k1 ++ (twW g a0 u0 ++ (twW g a1 u1 ++ (raW g ar ad ++ (rgW g ad cs 20)))))))))))) ((List.perm_append_comm_assoc _ _ _)) hP
        have hD := sp_D_perm (w2 := (twW g aN un) ++ (xoW x0 aN aT ap aB.1 ai (nI (s_sd (t, z))) ++ (twW g aT ut ++ (bkW g aB ub ++ (poW ap ar (nI nx) (nI (s_pz (t, z))) ++ (iaW g ai i0 i1 ++ (ioW i0 a0.1 s0 k0 ++ (ioW i1 a1.1 s1 k1 ++ (twW g a0 u0 ++ (twW g a1 u1 ++ (raW g ar ad ++ (rgW g ad cs 20)))))))))))) ((List.perm_append_comm_assoc _ _ _)) hD
        refine sp_vi (n := 1) SF hK hA (c_X3_forceUnder l g aN un t hR hI j hj) gX4_floor_X3_forceUnder rfl rfl rfl (by decide +kernel) rfl ⟨Nat.le_of_ble_eq_true rfl, Nat.le_of_ble_eq_true rfl⟩ 3 0 rfl rfl hP hD hS hl.1 rfl (Nat.le_of_ble_eq_true rfl) dX4_floor_136 (fun r9 u9 H locs w3 hP hD hS => ?_)
        subst w3
        have hP : va_P g.1 vwCl ((twW g aN un) ++ (xoW x0 aN aT ap aB.1 ai (nI (s_sd (t, z))) ++ (twW g aT ut ++ (bkW g aB ub ++ (poW ap ar (nI nx) (nI (s_pz (t, z))) ++ (iaW g ai i0 i1 ++ (ioW i0 a0.1 s0 k0 ++ (ioW i1 a1.1 s1 k1 ++ (twW g a0 u0 ++ (twW g a1 u1 ++ (raW g ar ad ++ (rgW g ad cs 20)))))))))))) H := hP
        have hD : va_D A ((twW g aN un) ++ (xoW x0 aN aT ap aB.1 ai (nI (s_sd (t, z))) ++ (twW g aT ut ++ (bkW g aB ub ++ (poW ap ar (nI nx) (nI (s_pz (t, z))) ++ (iaW g ai i0 i1 ++ (ioW i0 a0.1 s0 k0 ++ (ioW i1 a1.1 s1 k1 ++ (twW g a0 u0 ++ (twW g a1 u1 ++ (raW g ar ad ++ (rgW g ad cs 20)))))))))))) := hD
        have hP := sp_P_perm (w2 := xoW x0 aN aT ap aB.1 ai (nI (s_sd (t, z))) ++ (twW g aN un ++ (twW g aT ut ++ (bkW g aB ub ++ (poW ap ar (nI nx) (nI (s_pz (t, z))) ++ (iaW g ai i0 i1 ++ (ioW i0 a0.1 s0 k0 ++ (ioW i1 a1.1 s1 k1 ++ (twW g a0 u0 ++ (twW g a1 u1 ++ (raW g ar ad ++ (rgW g ad cs 20)))))))))))) ((List.perm_append_comm_assoc _ _ _)) hP
        have hD := sp_D_perm (w2 := xoW x0 aN aT ap aB.1 ai (nI (s_sd (t, z))) ++ (twW g aN un ++ (twW g aT ut ++ (bkW g aB ub ++ (poW ap ar (nI nx) (nI (s_pz (t, z))) ++ (iaW g ai i0 i1 ++ (ioW i0 a0.1 s0 k0 ++ (ioW i1 a1.1 s1 k1 ++ (twW g a0 u0 ++ (twW g a1 u1 ++ (raW g ar ad ++ (rgW g ad cs 20)))))))))))) ((List.perm_append_comm_assoc _ _ _)) hD
        refine lv_sipush (v := nI 1000) hx hb dX4_floor_139 (by decide) ?_
        refine lv_iadd hx hb dX4_floor_142 ?_
        exact hend _ _ _ _ _ ((s_sd (t, z)), (s_pz (t, z)), nx, un, ut, ub, s0, k0, s1, k1, u0, u1, cs) dX4_floor_143 (⟨(show _ = floorN t j 5 from rfl).trans (o_floor_in hn8 hj (by omega)).symm, ⟨⟨rfl, rfl⟩, hR, hRB, hRP, h0, h1⟩⟩) hP hD hS
      · refine lv_tableIn (off := 129) (tgt := 144) hx hb dX4_floor_15 (by decide) (by decide) (by decide) (by decide) ?_
        refine lv_aload_n hx hb dX4_floor_144 rfl (lv_at hl 0 rfl) ?_
        refine va_get (D := g.1) (ci := 4) (v := .ref aN.1) (C := RX4) (T := TX4) (N := 6) hx hb hts inX4 hown hK.1 hP 0 rfl rfl 0 (by decide) (hts _ (List.mem_of_getElem? (i := 1) rfl)) (fun _ h9 => h9) rfl dX4_floor_145 ?_
        refine lv_iload_n hx hb dX4_floor_148 rfl (lv_at hl 1 rfl) ?_
        have hP := sp_P_perm (w2 := (twW g aN un) ++ (xoW x0 aN aT ap aB.1 ai (nI (s_sd (t, z))) ++ (twW g aT ut ++ (bkW g aB ub ++ (poW ap ar (nI nx) (nI (s_pz (t, z))) ++ (iaW g ai i0 i1 ++ (ioW i0 a0.1 s0 k0 ++ (ioW i1 a1.1 s1 k1 ++ (twW g a0 u0 ++ (twW g a1 u1 ++ (raW g ar ad ++ (rgW g ad cs 20)))))))))))) ((List.perm_append_comm_assoc _ _ _)) hP
        have hD := sp_D_perm (w2 := (twW g aN un) ++ (xoW x0 aN aT ap aB.1 ai (nI (s_sd (t, z))) ++ (twW g aT ut ++ (bkW g aB ub ++ (poW ap ar (nI nx) (nI (s_pz (t, z))) ++ (iaW g ai i0 i1 ++ (ioW i0 a0.1 s0 k0 ++ (ioW i1 a1.1 s1 k1 ++ (twW g a0 u0 ++ (twW g a1 u1 ++ (raW g ar ad ++ (rgW g ad cs 20)))))))))))) ((List.perm_append_comm_assoc _ _ _)) hD
        refine sp_vi (n := 1) SF hK hA (c_X3_lowestOf l g aN un t hR hI j (by omega)) gX4_floor_X3_lowestOf rfl rfl rfl (by decide +kernel) rfl ⟨Nat.le_of_ble_eq_true rfl, Nat.le_of_ble_eq_true rfl⟩ 3 0 rfl rfl hP hD hS hl.1 rfl (Nat.le_of_ble_eq_true rfl) dX4_floor_149 (fun r9 u9 H locs w4 hP hD hS => ?_)
        subst w4
        have hP : va_P g.1 vwCl ((twW g aN un) ++ (xoW x0 aN aT ap aB.1 ai (nI (s_sd (t, z))) ++ (twW g aT ut ++ (bkW g aB ub ++ (poW ap ar (nI nx) (nI (s_pz (t, z))) ++ (iaW g ai i0 i1 ++ (ioW i0 a0.1 s0 k0 ++ (ioW i1 a1.1 s1 k1 ++ (twW g a0 u0 ++ (twW g a1 u1 ++ (raW g ar ad ++ (rgW g ad cs 20)))))))))))) H := hP
        have hD : va_D A ((twW g aN un) ++ (xoW x0 aN aT ap aB.1 ai (nI (s_sd (t, z))) ++ (twW g aT ut ++ (bkW g aB ub ++ (poW ap ar (nI nx) (nI (s_pz (t, z))) ++ (iaW g ai i0 i1 ++ (ioW i0 a0.1 s0 k0 ++ (ioW i1 a1.1 s1 k1 ++ (twW g a0 u0 ++ (twW g a1 u1 ++ (raW g ar ad ++ (rgW g ad cs 20)))))))))))) := hD
        have hP := sp_P_perm (w2 := xoW x0 aN aT ap aB.1 ai (nI (s_sd (t, z))) ++ (twW g aN un ++ (twW g aT ut ++ (bkW g aB ub ++ (poW ap ar (nI nx) (nI (s_pz (t, z))) ++ (iaW g ai i0 i1 ++ (ioW i0 a0.1 s0 k0 ++ (ioW i1 a1.1 s1 k1 ++ (twW g a0 u0 ++ (twW g a1 u1 ++ (raW g ar ad ++ (rgW g ad cs 20)))))))))))) ((List.perm_append_comm_assoc _ _ _)) hP
        have hD := sp_D_perm (w2 := xoW x0 aN aT ap aB.1 ai (nI (s_sd (t, z))) ++ (twW g aN un ++ (twW g aT ut ++ (bkW g aB ub ++ (poW ap ar (nI nx) (nI (s_pz (t, z))) ++ (iaW g ai i0 i1 ++ (ioW i0 a0.1 s0 k0 ++ (ioW i1 a1.1 s1 k1 ++ (twW g a0 u0 ++ (twW g a1 u1 ++ (raW g ar ad ++ (rgW g ad cs 20)))))))))))) ((List.perm_append_comm_assoc _ _ _)) hD
        exact hend _ _ _ _ _ ((s_sd (t, z)), (s_pz (t, z)), nx, un, ut, ub, s0, k0, s1, k1, u0, u1, cs) dX4_floor_152 (⟨(show _ = floorN t j 6 from rfl).trans (o_floor_in hn8 hj (by omega)).symm, ⟨⟨rfl, rfl⟩, hR, hRB, hRP, h0, h1⟩⟩) hP hD hS
      · refine lv_tableIn (off := 138) (tgt := 153) hx hb dX4_floor_15 (by decide) (by decide) (by decide) (by decide) ?_
        refine lv_aload_n hx hb dX4_floor_153 rfl (lv_at hl 0 rfl) ?_
        refine va_get (D := g.1) (ci := 4) (v := .ref aN.1) (C := RX4) (T := TX4) (N := 6) hx hb hts inX4 hown hK.1 hP 0 rfl rfl 0 (by decide) (hts _ (List.mem_of_getElem? (i := 1) rfl)) (fun _ h9 => h9) rfl dX4_floor_154 ?_
        refine lv_iload_n hx hb dX4_floor_157 rfl (lv_at hl 1 rfl) ?_
        have hP := sp_P_perm (w2 := (twW g aN un) ++ (xoW x0 aN aT ap aB.1 ai (nI (s_sd (t, z))) ++ (twW g aT ut ++ (bkW g aB ub ++ (poW ap ar (nI nx) (nI (s_pz (t, z))) ++ (iaW g ai i0 i1 ++ (ioW i0 a0.1 s0 k0 ++ (ioW i1 a1.1 s1 k1 ++ (twW g a0 u0 ++ (twW g a1 u1 ++ (raW g ar ad ++ (rgW g ad cs 20)))))))))))) ((List.perm_append_comm_assoc _ _ _)) hP
        have hD := sp_D_perm (w2 := (twW g aN un) ++ (xoW x0 aN aT ap aB.1 ai (nI (s_sd (t, z))) ++ (twW g aT ut ++ (bkW g aB ub ++ (poW ap ar (nI nx) (nI (s_pz (t, z))) ++ (iaW g ai i0 i1 ++ (ioW i0 a0.1 s0 k0 ++ (ioW i1 a1.1 s1 k1 ++ (twW g a0 u0 ++ (twW g a1 u1 ++ (raW g ar ad ++ (rgW g ad cs 20)))))))))))) ((List.perm_append_comm_assoc _ _ _)) hD
        refine sp_vi (n := 1) SF hK hA (c_X3_highestOf l g aN un t hR hI j hj) gX4_floor_X3_highestOf rfl rfl rfl (by decide +kernel) rfl ⟨Nat.le_of_ble_eq_true rfl, Nat.le_of_ble_eq_true rfl⟩ 3 0 rfl rfl hP hD hS hl.1 rfl (Nat.le_of_ble_eq_true rfl) dX4_floor_158 (fun r9 u9 H locs w5 hP hD hS => ?_)
        subst w5
        have hP : va_P g.1 vwCl ((twW g aN un) ++ (xoW x0 aN aT ap aB.1 ai (nI (s_sd (t, z))) ++ (twW g aT ut ++ (bkW g aB ub ++ (poW ap ar (nI nx) (nI (s_pz (t, z))) ++ (iaW g ai i0 i1 ++ (ioW i0 a0.1 s0 k0 ++ (ioW i1 a1.1 s1 k1 ++ (twW g a0 u0 ++ (twW g a1 u1 ++ (raW g ar ad ++ (rgW g ad cs 20)))))))))))) H := hP
        have hD : va_D A ((twW g aN un) ++ (xoW x0 aN aT ap aB.1 ai (nI (s_sd (t, z))) ++ (twW g aT ut ++ (bkW g aB ub ++ (poW ap ar (nI nx) (nI (s_pz (t, z))) ++ (iaW g ai i0 i1 ++ (ioW i0 a0.1 s0 k0 ++ (ioW i1 a1.1 s1 k1 ++ (twW g a0 u0 ++ (twW g a1 u1 ++ (raW g ar ad ++ (rgW g ad cs 20)))))))))))) := hD
        have hP := sp_P_perm (w2 := xoW x0 aN aT ap aB.1 ai (nI (s_sd (t, z))) ++ (twW g aN un ++ (twW g aT ut ++ (bkW g aB ub ++ (poW ap ar (nI nx) (nI (s_pz (t, z))) ++ (iaW g ai i0 i1 ++ (ioW i0 a0.1 s0 k0 ++ (ioW i1 a1.1 s1 k1 ++ (twW g a0 u0 ++ (twW g a1 u1 ++ (raW g ar ad ++ (rgW g ad cs 20)))))))))))) ((List.perm_append_comm_assoc _ _ _)) hP
        have hD := sp_D_perm (w2 := xoW x0 aN aT ap aB.1 ai (nI (s_sd (t, z))) ++ (twW g aN un ++ (twW g aT ut ++ (bkW g aB ub ++ (poW ap ar (nI nx) (nI (s_pz (t, z))) ++ (iaW g ai i0 i1 ++ (ioW i0 a0.1 s0 k0 ++ (ioW i1 a1.1 s1 k1 ++ (twW g a0 u0 ++ (twW g a1 u1 ++ (raW g ar ad ++ (rgW g ad cs 20)))))))))))) ((List.perm_append_comm_assoc _ _ _)) hD
        exact hend _ _ _ _ _ ((s_sd (t, z)), (s_pz (t, z)), nx, un, ut, ub, s0, k0, s1, k1, u0, u1, cs) dX4_floor_161 (⟨(show _ = floorN t j 7 from rfl).trans (o_floor_in hn8 hj (by omega)).symm, ⟨⟨rfl, rfl⟩, hR, hRB, hRP, h0, h1⟩⟩) hP hD hS
      · refine lv_tableIn (off := 147) (tgt := 162) hx hb dX4_floor_15 (by decide) (by decide) (by decide) (by decide) ?_
        refine lv_aload_n hx hb dX4_floor_162 rfl (lv_at hl 0 rfl) ?_
        refine va_get (D := g.1) (ci := 4) (v := .ref aN.1) (C := RX4) (T := TX4) (N := 6) hx hb hts inX4 hown hK.1 hP 0 rfl rfl 0 (by decide) (hts _ (List.mem_of_getElem? (i := 1) rfl)) (fun _ h9 => h9) rfl dX4_floor_163 ?_
        refine lv_iload_n hx hb dX4_floor_166 rfl (lv_at hl 1 rfl) ?_
        have hP := sp_P_perm (w2 := (twW g aN un) ++ (xoW x0 aN aT ap aB.1 ai (nI (s_sd (t, z))) ++ (twW g aT ut ++ (bkW g aB ub ++ (poW ap ar (nI nx) (nI (s_pz (t, z))) ++ (iaW g ai i0 i1 ++ (ioW i0 a0.1 s0 k0 ++ (ioW i1 a1.1 s1 k1 ++ (twW g a0 u0 ++ (twW g a1 u1 ++ (raW g ar ad ++ (rgW g ad cs 20)))))))))))) ((List.perm_append_comm_assoc _ _ _)) hP
        have hD := sp_D_perm (w2 := (twW g aN un) ++ (xoW x0 aN aT ap aB.1 ai (nI (s_sd (t, z))) ++ (twW g aT ut ++ (bkW g aB ub ++ (poW ap ar (nI nx) (nI (s_pz (t, z))) ++ (iaW g ai i0 i1 ++ (ioW i0 a0.1 s0 k0 ++ (ioW i1 a1.1 s1 k1 ++ (twW g a0 u0 ++ (twW g a1 u1 ++ (raW g ar ad ++ (rgW g ad cs 20)))))))))))) ((List.perm_append_comm_assoc _ _ _)) hD
        refine sp_vi (n := 1) SF hK hA (c_X3_isGrounded l g aN un t hR hI j (by omega)) gX4_floor_X3_isGrounded rfl rfl rfl (by decide +kernel) rfl ⟨Nat.le_of_ble_eq_true rfl, Nat.le_of_ble_eq_true rfl⟩ 3 0 rfl rfl hP hD hS hl.1 rfl (Nat.le_of_ble_eq_true rfl) dX4_floor_167 (fun r9 u9 H locs hb8 hP hD hS => ?_)
        obtain ⟨b8, rfl, hb8⟩ := hb8
        have hP : va_P g.1 vwCl ((twW g aN un) ++ (xoW x0 aN aT ap aB.1 ai (nI (s_sd (t, z))) ++ (twW g aT ut ++ (bkW g aB ub ++ (poW ap ar (nI nx) (nI (s_pz (t, z))) ++ (iaW g ai i0 i1 ++ (ioW i0 a0.1 s0 k0 ++ (ioW i1 a1.1 s1 k1 ++ (twW g a0 u0 ++ (twW g a1 u1 ++ (raW g ar ad ++ (rgW g ad cs 20)))))))))))) H := hP
        have hD : va_D A ((twW g aN un) ++ (xoW x0 aN aT ap aB.1 ai (nI (s_sd (t, z))) ++ (twW g aT ut ++ (bkW g aB ub ++ (poW ap ar (nI nx) (nI (s_pz (t, z))) ++ (iaW g ai i0 i1 ++ (ioW i0 a0.1 s0 k0 ++ (ioW i1 a1.1 s1 k1 ++ (twW g a0 u0 ++ (twW g a1 u1 ++ (raW g ar ad ++ (rgW g ad cs 20)))))))))))) := hD
        have hP := sp_P_perm (w2 := xoW x0 aN aT ap aB.1 ai (nI (s_sd (t, z))) ++ (twW g aN un ++ (twW g aT ut ++ (bkW g aB ub ++ (poW ap ar (nI nx) (nI (s_pz (t, z))) ++ (iaW g ai i0 i1 ++ (ioW i0 a0.1 s0 k0 ++ (ioW i1 a1.1 s1 k1 ++ (twW g a0 u0 ++ (twW g a1 u1 ++ (raW g ar ad ++ (rgW g ad cs 20)))))))))))) ((List.perm_append_comm_assoc _ _ _)) hP
        have hD := sp_D_perm (w2 := xoW x0 aN aT ap aB.1 ai (nI (s_sd (t, z))) ++ (twW g aN un ++ (twW g aT ut ++ (bkW g aB ub ++ (poW ap ar (nI nx) (nI (s_pz (t, z))) ++ (iaW g ai i0 i1 ++ (ioW i0 a0.1 s0 k0 ++ (ioW i1 a1.1 s1 k1 ++ (twW g a0 u0 ++ (twW g a1 u1 ++ (raW g ar ad ++ (rgW g ad cs 20)))))))))))) ((List.perm_append_comm_assoc _ _ _)) hD
        refine lv_if_eq (tgt := 177) hx hb dX4_floor_170 (by decide) (fun c8 => ?_) (fun c8 => ?_)
        · have c8 := sp_b0.mp c8
          refine lv_iconst (v := nI 0) hx hb dX4_floor_177 (by decide) ?_
          exact hend _ _ _ _ _ ((s_sd (t, z)), (s_pz (t, z)), nx, un, ut, ub, s0, k0, s1, k1, u0, u1, cs) dX4_floor_178 (⟨(show _ = floorN t j 8 from by show _ = bI (sp_gr t j); rw [← hb8, c8]; rfl).trans (o_floor_in hn8 hj (by omega)).symm, ⟨⟨rfl, rfl⟩, hR, hRB, hRP, h0, h1⟩⟩) hP hD hS
        · have c8 := sp_b0n.mp c8
          refine lv_iconst (v := nI 1) hx hb dX4_floor_173 (by decide) ?_
          refine lv_goto (tgt := 178) hx hb dX4_floor_174 (by decide) ?_
          exact hend _ _ _ _ _ ((s_sd (t, z)), (s_pz (t, z)), nx, un, ut, ub, s0, k0, s1, k1, u0, u1, cs) dX4_floor_178 (⟨(show _ = floorN t j 8 from by show _ = bI (sp_gr t j); rw [← hb8, c8]; rfl).trans (o_floor_in hn8 hj (by omega)).symm, ⟨⟨rfl, rfl⟩, hR, hRB, hRP, h0, h1⟩⟩) hP hD hS
      · refine lv_tableIn (off := 164) (tgt := 179) hx hb dX4_floor_15 (by decide) (by decide) (by decide) (by decide) ?_
        refine lv_aload_n hx hb dX4_floor_179 rfl (lv_at hl 0 rfl) ?_
        refine lv_iload_n hx hb dX4_floor_180 rfl (lv_at hl 1 rfl) ?_
        have hP := sp_P_perm (w2 := (xoW x0 aN aT ap aB.1 ai (nI (s_sd (t, z))) ++ (twW g aN un ++ (twW g aT ut))) ++ (bkW g aB ub ++ (poW ap ar (nI nx) (nI (s_pz (t, z))) ++ (iaW g ai i0 i1 ++ (ioW i0 a0.1 s0 k0 ++ (ioW i1 a1.1 s1 k1 ++ (twW g a0 u0 ++ (twW g a1 u1 ++ (raW g ar ad ++ (rgW g ad cs 20)))))))))) ((List.Perm.refl _).trans (List.Perm.of_eq (by simp only [List.append_assoc]))) hP
        have hD := sp_D_perm (w2 := (xoW x0 aN aT ap aB.1 ai (nI (s_sd (t, z))) ++ (twW g aN un ++ (twW g aT ut))) ++ (bkW g aB ub ++ (poW ap ar (nI nx) (nI (s_pz (t, z))) ++ (iaW g ai i0 i1 ++ (ioW i0 a0.1 s0 k0 ++ (ioW i1 a1.1 s1 k1 ++ (twW g a0 u0 ++ (twW g a1 u1 ++ (raW g ar ad ++ (rgW g ad cs 20)))))))))) ((List.Perm.refl _).trans (List.Perm.of_eq (by simp only [List.append_assoc]))) hD
        refine sp_vi (n := 1) SF hK hA (c_X4_earliestFor l g x0 aN aT ap aB.1 ai (nI (s_sd (t, z))) un ut t hR hI (by omega) j hj) gX4_floor_X4_earliestFor rfl rfl rfl (by decide +kernel) rfl ⟨Nat.le_of_ble_eq_true rfl, Nat.le_of_ble_eq_true rfl⟩ 4 0 rfl rfl hP hD hS hl.1 rfl (Nat.le_of_ble_eq_true rfl) dX4_floor_181 (fun r9 u2 H locs hw2 hP hD hS => ?_)
        subst hw2
        have hP : va_P g.1 vwCl ((xoW x0 aN aT ap aB.1 ai (nI (s_sd (t, z))) ++ (twW g aN un ++ (twW g aT u2))) ++ (bkW g aB ub ++ (poW ap ar (nI nx) (nI (s_pz (t, z))) ++ (iaW g ai i0 i1 ++ (ioW i0 a0.1 s0 k0 ++ (ioW i1 a1.1 s1 k1 ++ (twW g a0 u0 ++ (twW g a1 u1 ++ (raW g ar ad ++ (rgW g ad cs 20)))))))))) H := hP
        have hD : va_D A ((xoW x0 aN aT ap aB.1 ai (nI (s_sd (t, z))) ++ (twW g aN un ++ (twW g aT u2))) ++ (bkW g aB ub ++ (poW ap ar (nI nx) (nI (s_pz (t, z))) ++ (iaW g ai i0 i1 ++ (ioW i0 a0.1 s0 k0 ++ (ioW i1 a1.1 s1 k1 ++ (twW g a0 u0 ++ (twW g a1 u1 ++ (raW g ar ad ++ (rgW g ad cs 20)))))))))) := hD
        have hP := sp_P_perm (w2 := xoW x0 aN aT ap aB.1 ai (nI (s_sd (t, z))) ++ (twW g aN un ++ (twW g aT u2 ++ (bkW g aB ub ++ (poW ap ar (nI nx) (nI (s_pz (t, z))) ++ (iaW g ai i0 i1 ++ (ioW i0 a0.1 s0 k0 ++ (ioW i1 a1.1 s1 k1 ++ (twW g a0 u0 ++ (twW g a1 u1 ++ (raW g ar ad ++ (rgW g ad cs 20)))))))))))) ((List.Perm.of_eq (by simp only [List.append_assoc])).trans (List.Perm.refl _)) hP
        have hD := sp_D_perm (w2 := xoW x0 aN aT ap aB.1 ai (nI (s_sd (t, z))) ++ (twW g aN un ++ (twW g aT u2 ++ (bkW g aB ub ++ (poW ap ar (nI nx) (nI (s_pz (t, z))) ++ (iaW g ai i0 i1 ++ (ioW i0 a0.1 s0 k0 ++ (ioW i1 a1.1 s1 k1 ++ (twW g a0 u0 ++ (twW g a1 u1 ++ (raW g ar ad ++ (rgW g ad cs 20)))))))))))) ((List.Perm.of_eq (by simp only [List.append_assoc])).trans (List.Perm.refl _)) hD
        exact hend _ _ _ _ _ ((s_sd (t, z)), (s_pz (t, z)), nx, un, u2, ub, s0, k0, s1, k1, u0, u1, cs) dX4_floor_184 (⟨(show _ = floorN t j 9 from rfl).trans (o_floor_in hn8 hj (by omega)).symm, ⟨⟨rfl, rfl⟩, hR, hRB, hRP, h0, h1⟩⟩) hP hD hS
      · refine lv_tableIn (off := 170) (tgt := 185) hx hb dX4_floor_15 (by decide) (by decide) (by decide) (by decide) ?_
        refine lv_aload_n hx hb dX4_floor_185 rfl (lv_at hl 0 rfl) ?_
        refine lv_iload_n hx hb dX4_floor_186 rfl (lv_at hl 1 rfl) ?_
        have hP := sp_P_perm (w2 := (xoW x0 aN aT ap aB.1 ai (nI (s_sd (t, z))) ++ (twW g aN un ++ (twW g aT ut))) ++ (bkW g aB ub ++ (poW ap ar (nI nx) (nI (s_pz (t, z))) ++ (iaW g ai i0 i1 ++ (ioW i0 a0.1 s0 k0 ++ (ioW i1 a1.1 s1 k1 ++ (twW g a0 u0 ++ (twW g a1 u1 ++ (raW g ar ad ++ (rgW g ad cs 20)))))))))) ((List.Perm.refl _).trans (List.Perm.of_eq (by simp only [List.append_assoc]))) hP
        have hD := sp_D_perm (w2 := (xoW x0 aN aT ap aB.1 ai (nI (s_sd (t, z))) ++ (twW g aN un ++ (twW g aT ut))) ++ (bkW g aB ub ++ (poW ap ar (nI nx) (nI (s_pz (t, z))) ++ (iaW g ai i0 i1 ++ (ioW i0 a0.1 s0 k0 ++ (ioW i1 a1.1 s1 k1 ++ (twW g a0 u0 ++ (twW g a1 u1 ++ (raW g ar ad ++ (rgW g ad cs 20)))))))))) ((List.Perm.refl _).trans (List.Perm.of_eq (by simp only [List.append_assoc]))) hD
        refine sp_vi (n := 1) SF hK hA (c_X4_harmOf l g x0 aN aT ap aB.1 ai (nI (s_sd (t, z))) un ut t hR hI (by omega) j hj) gX4_floor_X4_harmOf rfl rfl rfl (by decide +kernel) rfl ⟨Nat.le_of_ble_eq_true rfl, Nat.le_of_ble_eq_true rfl⟩ 4 0 rfl rfl hP hD hS hl.1 rfl (Nat.le_of_ble_eq_true rfl) dX4_floor_187 (fun r9 u2 H locs hw2 hP hD hS => ?_)
        subst hw2
        have hP : va_P g.1 vwCl ((xoW x0 aN aT ap aB.1 ai (nI (s_sd (t, z))) ++ (twW g aN un ++ (twW g aT u2))) ++ (bkW g aB ub ++ (poW ap ar (nI nx) (nI (s_pz (t, z))) ++ (iaW g ai i0 i1 ++ (ioW i0 a0.1 s0 k0 ++ (ioW i1 a1.1 s1 k1 ++ (twW g a0 u0 ++ (twW g a1 u1 ++ (raW g ar ad ++ (rgW g ad cs 20)))))))))) H := hP
        have hD : va_D A ((xoW x0 aN aT ap aB.1 ai (nI (s_sd (t, z))) ++ (twW g aN un ++ (twW g aT u2))) ++ (bkW g aB ub ++ (poW ap ar (nI nx) (nI (s_pz (t, z))) ++ (iaW g ai i0 i1 ++ (ioW i0 a0.1 s0 k0 ++ (ioW i1 a1.1 s1 k1 ++ (twW g a0 u0 ++ (twW g a1 u1 ++ (raW g ar ad ++ (rgW g ad cs 20)))))))))) := hD
        have hP := sp_P_perm (w2 := xoW x0 aN aT ap aB.1 ai (nI (s_sd (t, z))) ++ (twW g aN un ++ (twW g aT u2 ++ (bkW g aB ub ++ (poW ap ar (nI nx) (nI (s_pz (t, z))) ++ (iaW g ai i0 i1 ++ (ioW i0 a0.1 s0 k0 ++ (ioW i1 a1.1 s1 k1 ++ (twW g a0 u0 ++ (twW g a1 u1 ++ (raW g ar ad ++ (rgW g ad cs 20)))))))))))) ((List.Perm.of_eq (by simp only [List.append_assoc])).trans (List.Perm.refl _)) hP
        have hD := sp_D_perm (w2 := xoW x0 aN aT ap aB.1 ai (nI (s_sd (t, z))) ++ (twW g aN un ++ (twW g aT u2 ++ (bkW g aB ub ++ (poW ap ar (nI nx) (nI (s_pz (t, z))) ++ (iaW g ai i0 i1 ++ (ioW i0 a0.1 s0 k0 ++ (ioW i1 a1.1 s1 k1 ++ (twW g a0 u0 ++ (twW g a1 u1 ++ (raW g ar ad ++ (rgW g ad cs 20)))))))))))) ((List.Perm.of_eq (by simp only [List.append_assoc])).trans (List.Perm.refl _)) hD
        exact hend _ _ _ _ _ ((s_sd (t, z)), (s_pz (t, z)), nx, un, u2, ub, s0, k0, s1, k1, u0, u1, cs) dX4_floor_190 (⟨(show _ = floorN t j 10 from rfl).trans (o_floor_in hn8 hj (by omega)).symm, ⟨⟨rfl, rfl⟩, hR, hRB, hRP, h0, h1⟩⟩) hP hD hS
    · refine lv_tableOut (tgt := 191) hx hb dX4_floor_15 (by omega) (by decide) ?_
      refine lv_ldc (v := (-1000000002)) hx hb hown (hts _ (List.mem_of_getElem? (i := 5) rfl)) dX4_floor_191 ?_
      exact hend _ _ _ _ _ ((s_sd (t, z)), (s_pz (t, z)), nx, un, ut, ub, s0, k0, s1, k1, u0, u1, cs) dX4_floor_193 (⟨(o_floor_out hn8 hj hsw).symm, ⟨⟨rfl, rfl⟩, hR, hRB, hRP, h0, h1⟩⟩) hP hD hS
  · have c1 := sp_b0.mp c1
    refine lv_ldc (v := (-1000000001)) hx hb hown (hts _ (List.mem_of_getElem? (i := 2) rfl)) dX4_floor_11 ?_
    exact hend _ _ _ _ _ ((s_sd (t, z)), (s_pz (t, z)), nx, un, ut, ub, s0, k0, s1, k1, u0, u1, cs) dX4_floor_13 (⟨(o_floor_u (hbb.symm.trans c1)).symm, ⟨⟨rfl, rfl⟩, hR, hRB, hRP, h0, h1⟩⟩) hP hD hS

set_option maxHeartbeats 4000000 in
set_option maxRecDepth 100000 in
theorem c_X4_hundredths (l : Launch) (g : sp_G) (K : sp_AD) (c : sp_C0) (x : sp_S) (hX : sp_C c x) (B : Nat) (hJ : sp_J x B) (hB : B ≤ 150000) (f0 w0 : Int32) : sp_CI l g yX4_hundredths wsX4_hundredths ({ frames := 1, cells := 0, slots := 0, locals := 24 }) [.ref K.1, .int f0, .int w0] (xW g K c) (fun r (c : sp_C0) => r = o_hun f0 w0 ∧ sp_C c x) (fun c => xW g K c) := by
  obtain ⟨x0, aN, aT, aB, ap, ai, i0, i1, a0, a1, ar, ad⟩ := K
  obtain ⟨sd, pz, nx, un, ut, ub, s0, k0, s1, k1, u0, u1, cs⟩ := c
  obtain ⟨t, z⟩ := x
  obtain ⟨⟨hsd, hpz⟩, hR, hRB, hRP, h0, h1⟩ := hX
  dsimp only at hsd hpz hR hRB hRP h0 h1
  subst hsd
  subst hpz
  have hR : sp_R un t := hR
  have hI : sp_I t := hJ.now
  have hn8 := hI.n
  have hdB : td t ≤ B := hJ.d
  have hpz20 := hJ.pz
  have hnx := hRP.1
  have hbn20 := hJ.bn
  refine sp_CI.of (cc := cX4_hundredths) (maxL := 3) (by decide) rfl (Nat.le_of_ble_eq_true rfl) ?_
  intro p e s m below meth c Q A ls SF hK hP hD hA hl hend
  have hx := SF.1
  have hb := SF.2.1
  have hown : s.vm.findClass RX4 = some m.cls := SF.2.2.2.1
  have hts := SF.2.2.2.2
  have hS : va_S A s.heap s.heap [] := va_S.rf
  have hl : lv_has ls 3 [(0, .ref x0), (1, .int f0), (2, .int w0)] := hl
  have hP : va_P g.1 vwCl (xoW x0 aN aT ap aB.1 ai (nI (s_sd (t, z))) ++ (twW g aN un ++ (twW g aT ut ++ (bkW g aB ub ++ (poW ap ar (nI nx) (nI (s_pz (t, z))) ++ (iaW g ai i0 i1 ++ (ioW i0 a0.1 s0 k0 ++ (ioW i1 a1.1 s1 k1 ++ (twW g a0 u0 ++ (twW g a1 u1 ++ (raW g ar ad ++ (rgW g ad cs 20)))))))))))) s.heap := hP
  have hD : va_D A (xoW x0 aN aT ap aB.1 ai (nI (s_sd (t, z))) ++ (twW g aN un ++ (twW g aT ut ++ (bkW g aB ub ++ (poW ap ar (nI nx) (nI (s_pz (t, z))) ++ (iaW g ai i0 i1 ++ (ioW i0 a0.1 s0 k0 ++ (ioW i1 a1.1 s1 k1 ++ (twW g a0 u0 ++ (twW g a1 u1 ++ (raW g ar ad ++ (rgW g ad cs 20)))))))))))) := hD
  refine lv_iload_n hx hb dX4_hundredths_0 rfl (lv_at hl 1 rfl) ?_
  refine lv_if_lt (tgt := 20) hx hb dX4_hundredths_1 (by decide) (fun c1 => ?_) (fun c1 => ?_)
  · refine lv_ldc (v := (-1000000002)) hx hb hown (hts _ (List.mem_of_getElem? (i := 1) rfl)) dX4_hundredths_20 ?_
    exact hend _ _ _ _ _ ((s_sd (t, z)), (s_pz (t, z)), nx, un, ut, ub, s0, k0, s1, k1, u0, u1, cs) dX4_hundredths_22 (⟨by first | exact (o_hun_o2 (sp_inI_2 (sp_le_f c4)).symm).symm | exact (o_hun_o2 (sp_inI_1 c3).symm).symm | exact (o_hun_o1 (sp_inI_2 c2).symm).symm | exact (o_hun_o1 (sp_inI_1 c1).symm).symm, ⟨⟨rfl, rfl⟩, hR, hRB, hRP, h0, h1⟩⟩) hP hD hS
  · refine lv_iload_n hx hb dX4_hundredths_4 rfl (lv_at hl 1 rfl) ?_
    refine lv_iconst (v := nI 2) hx hb dX4_hundredths_5 (by decide) ?_
    refine lv_icmp_gt (tgt := 20) hx hb dX4_hundredths_6 (by decide) (fun c2 => ?_) (fun c2 => ?_)
    · refine lv_ldc (v := (-1000000002)) hx hb hown (hts _ (List.mem_of_getElem? (i := 1) rfl)) dX4_hundredths_20 ?_
      exact hend _ _ _ _ _ ((s_sd (t, z)), (s_pz (t, z)), nx, un, ut, ub, s0, k0, s1, k1, u0, u1, cs) dX4_hundredths_22 (⟨by first | exact (o_hun_o2 (sp_inI_2 (sp_le_f c4)).symm).symm | exact (o_hun_o2 (sp_inI_1 c3).symm).symm | exact (o_hun_o1 (sp_inI_2 c2).symm).symm | exact (o_hun_o1 (sp_inI_1 c1).symm).symm, ⟨⟨rfl, rfl⟩, hR, hRB, hRP, h0, h1⟩⟩) hP hD hS
    · refine lv_iload_n hx hb dX4_hundredths_9 rfl (lv_at hl 2 rfl) ?_
      refine lv_if_lt (tgt := 20) hx hb dX4_hundredths_10 (by decide) (fun c3 => ?_) (fun c3 => ?_)
      · refine lv_ldc (v := (-1000000002)) hx hb hown (hts _ (List.mem_of_getElem? (i := 1) rfl)) dX4_hundredths_20 ?_
        exact hend _ _ _ _ _ ((s_sd (t, z)), (s_pz (t, z)), nx, un, ut, ub, s0, k0, s1, k1, u0, u1, cs) dX4_hundredths_22 (⟨by first | exact (o_hun_o2 (sp_inI_2 (sp_le_f c4)).symm).symm | exact (o_hun_o2 (sp_inI_1 c3).symm).symm | exact (o_hun_o1 (sp_inI_2 c2).symm).symm | exact (o_hun_o1 (sp_inI_1 c1).symm).symm, ⟨⟨rfl, rfl⟩, hR, hRB, hRP, h0, h1⟩⟩) hP hD hS
      · refine lv_iload_n hx hb dX4_hundredths_13 rfl (lv_at hl 2 rfl) ?_
        refine lv_sipush (v := nI 999) hx hb dX4_hundredths_14 (by decide) ?_
        refine lv_icmp_le (tgt := 23) hx hb dX4_hundredths_17 (by decide) (fun c4 => ?_) (fun c4 => ?_)
        · obtain ⟨p1, _, h2, rfl⟩ := sp_inI_t (a := 0) (b := 2) (by omega) (by omega) (sp_inI_3 c1 c2).symm
          obtain ⟨p2, _, h4, rfl⟩ := sp_inI_t (a := 0) (b := 999) (by omega) (by omega) (sp_inI_3 c3 (sp_le_t c4)).symm
          refine lv_iload_n hx hb dX4_hundredths_23 rfl (lv_at hl 1 rfl) ?_
          refine lv_iload_n hx hb dX4_hundredths_24 rfl (lv_at hl 2 rfl) ?_
          refine sp_si (n := 2) (wc := []) (wr := (xoW x0 aN aT ap aB.1 ai (nI (s_sd (t, z))) ++ (twW g aN un ++ (twW g aT ut ++ (bkW g aB ub ++ (poW ap ar (nI nx) (nI (s_pz (t, z))) ++ (iaW g ai i0 i1 ++ (ioW i0 a0.1 s0 k0 ++ (ioW i1 a1.1 s1 k1 ++ (twW g a0 u0 ++ (twW g a1 u1 ++ (raW g ar ad ++ (rgW g ad cs 20))))))))))))) SF hK hA (c_X4_percentAt l g p1 p2 h2 (by omega)) gX4_hundredths_X4_percentAt rfl rfl rfl (by decide +kernel) rfl ⟨Nat.le_of_ble_eq_true rfl, Nat.le_of_ble_eq_true rfl⟩ hP hD hS hl.1 rfl (Nat.le_of_ble_eq_true rfl) dX4_hundredths_25 (fun r9 u9 H locs hbc hP hD hS => ?_)
          subst hbc
          have hP : va_P g.1 vwCl (xoW x0 aN aT ap aB.1 ai (nI (s_sd (t, z))) ++ (twW g aN un ++ (twW g aT ut ++ (bkW g aB ub ++ (poW ap ar (nI nx) (nI (s_pz (t, z))) ++ (iaW g ai i0 i1 ++ (ioW i0 a0.1 s0 k0 ++ (ioW i1 a1.1 s1 k1 ++ (twW g a0 u0 ++ (twW g a1 u1 ++ (raW g ar ad ++ (rgW g ad cs 20)))))))))))) H := hP
          have hD : va_D A (xoW x0 aN aT ap aB.1 ai (nI (s_sd (t, z))) ++ (twW g aN un ++ (twW g aT ut ++ (bkW g aB ub ++ (poW ap ar (nI nx) (nI (s_pz (t, z))) ++ (iaW g ai i0 i1 ++ (ioW i0 a0.1 s0 k0 ++ (ioW i1 a1.1 s1 k1 ++ (twW g a0 u0 ++ (twW g a1 u1 ++ (raW g ar ad ++ (rgW g ad cs 20)))))))))))) := hD
          exact hend _ _ _ _ _ ((s_sd (t, z)), (s_pz (t, z)), nx, un, ut, ub, s0, k0, s1, k1, u0, u1, cs) dX4_hundredths_28 (⟨(o_hun_in h2 h4).symm, ⟨⟨rfl, rfl⟩, hR, hRB, hRP, h0, h1⟩⟩) hP hD hS
        · refine lv_ldc (v := (-1000000002)) hx hb hown (hts _ (List.mem_of_getElem? (i := 1) rfl)) dX4_hundredths_20 ?_
          exact hend _ _ _ _ _ ((s_sd (t, z)), (s_pz (t, z)), nx, un, ut, ub, s0, k0, s1, k1, u0, u1, cs) dX4_hundredths_22 (⟨by first | exact (o_hun_o2 (sp_inI_2 (sp_le_f c4)).symm).symm | exact (o_hun_o2 (sp_inI_1 c3).symm).symm | exact (o_hun_o1 (sp_inI_2 c2).symm).symm | exact (o_hun_o1 (sp_inI_1 c1).symm).symm, ⟨⟨rfl, rfl⟩, hR, hRB, hRP, h0, h1⟩⟩) hP hD hS

set_option maxHeartbeats 4000000 in
set_option maxRecDepth 100000 in
theorem c_X4_would (l : Launch) (g : sp_G) (K : sp_AD) (c : sp_C0) (x : sp_S) (hX : sp_C c x) (B : Nat) (hJ : sp_J x B) (hB : B ≤ 150000) (f0 w0 : Int32) : sp_CI l g yX4_would wsX4_would ({ frames := 5, cells := 0, slots := 0, locals := 120 }) [.ref K.1, .int f0, .int w0] (xW g K c) (fun r (c : sp_C0) => r = o_would (s_now x) f0 w0 ∧ sp_C c x) (fun c => xW g K c) := by
  obtain ⟨x0, aN, aT, aB, ap, ai, i0, i1, a0, a1, ar, ad⟩ := K
  obtain ⟨sd, pz, nx, un, ut, ub, s0, k0, s1, k1, u0, u1, cs⟩ := c
  obtain ⟨t, z⟩ := x
  obtain ⟨⟨hsd, hpz⟩, hR, hRB, hRP, h0, h1⟩ := hX
  dsimp only at hsd hpz hR hRB hRP h0 h1
  subst hsd
  subst hpz
  have hR : sp_R un t := hR
  have hI : sp_I t := hJ.now
  have hn8 := hI.n
  have hdB : td t ≤ B := hJ.d
  have hpz20 := hJ.pz
  have hnx := hRP.1
  have hbn20 := hJ.bn
  refine sp_CI.of (cc := cX4_would) (maxL := 3) (by decide) rfl (Nat.le_of_ble_eq_true rfl) ?_
  intro p e s m below meth c Q A ls SF hK hP hD hA hl hend
  have hx := SF.1
  have hb := SF.2.1
  have hown : s.vm.findClass RX4 = some m.cls := SF.2.2.2.1
  have hts := SF.2.2.2.2
  have hS : va_S A s.heap s.heap [] := va_S.rf
  have inX4 : ∀ w ∈ wsX40, w ∈ wsX4_would := fun w h => List.mem_cons_of_mem _ (List.mem_append_left _ (List.mem_append_right _ h))
  have inX3 : ∀ w ∈ wsX30, w ∈ wsX4_would := fun w h => List.mem_cons_of_mem _ (List.mem_append_right _ h)
  have hl : lv_has ls 3 [(0, .ref x0), (1, .int f0), (2, .int w0)] := hl
  have hP : va_P g.1 vwCl (xoW x0 aN aT ap aB.1 ai (nI (s_sd (t, z))) ++ (twW g aN un ++ (twW g aT ut ++ (bkW g aB ub ++ (poW ap ar (nI nx) (nI (s_pz (t, z))) ++ (iaW g ai i0 i1 ++ (ioW i0 a0.1 s0 k0 ++ (ioW i1 a1.1 s1 k1 ++ (twW g a0 u0 ++ (twW g a1 u1 ++ (raW g ar ad ++ (rgW g ad cs 20)))))))))))) s.heap := hP
  have hD : va_D A (xoW x0 aN aT ap aB.1 ai (nI (s_sd (t, z))) ++ (twW g aN un ++ (twW g aT ut ++ (bkW g aB ub ++ (poW ap ar (nI nx) (nI (s_pz (t, z))) ++ (iaW g ai i0 i1 ++ (ioW i0 a0.1 s0 k0 ++ (ioW i1 a1.1 s1 k1 ++ (twW g a0 u0 ++ (twW g a1 u1 ++ (raW g ar ad ++ (rgW g ad cs 20)))))))))))) := hD
  refine lv_aload_n hx hb dX4_would_0 rfl (lv_at hl 0 rfl) ?_
  refine va_get (D := g.1) (ci := 4) (v := .ref aN.1) (C := RX4) (T := TX4) (N := 6) hx hb hts inX4 hown hK.1 hP 0 rfl rfl 0 (by decide) (hts _ (List.mem_of_getElem? (i := 1) rfl)) (fun _ h9 => h9) rfl dX4_would_1 ?_
  refine lv_iload_n hx hb dX4_would_4 rfl (lv_at hl 1 rfl) ?_
  have hP := sp_P_perm (w2 := (twW g aN un) ++ (xoW x0 aN aT ap aB.1 ai (nI (s_sd (t, z))) ++ (twW g aT ut ++ (bkW g aB ub ++ (poW ap ar (nI nx) (nI (s_pz (t, z))) ++ (iaW g ai i0 i1 ++ (ioW i0 a0.1 s0 k0 ++ (ioW i1 a1.1 s1 k1 ++ (twW g a0 u0 ++ (twW g a1 u1 ++ (raW g ar ad ++ (rgW g ad cs 20)))))))))))) ((List.perm_append_comm_assoc _ _ _)) hP
  have hD := sp_D_perm (w2 := (twW g aN un) ++ (xoW x0 aN aT ap aB.1 ai (nI (s_sd (t, z))) ++ (twW g aT ut ++ (bkW g aB ub ++ (poW ap ar (nI nx) (nI (s_pz (t, z))) ++ (iaW g ai i0 i1 ++ (ioW i0 a0.1 s0 k0 ++ (ioW i1 a1.1 s1 k1 ++ (twW g a0 u0 ++ (twW g a1 u1 ++ (raW g ar ad ++ (rgW g ad cs 20)))))))))))) ((List.perm_append_comm_assoc _ _ _)) hD
  refine sp_vi (n := 1) SF hK hA (c_X3_has l g aN un t hR hI f0) gX4_would_X3_has rfl rfl rfl (by decide +kernel) rfl ⟨Nat.le_of_ble_eq_true rfl, Nat.le_of_ble_eq_true rfl⟩ 3 0 rfl rfl hP hD hS hl.1 rfl (Nat.le_of_ble_eq_true rfl) dX4_would_5 (fun r9 u9 H locs hbb hP hD hS => ?_)
  obtain ⟨bb, rfl, hbb⟩ := hbb
  have hP : va_P g.1 vwCl ((twW g aN un) ++ (xoW x0 aN aT ap aB.1 ai (nI (s_sd (t, z))) ++ (twW g aT ut ++ (bkW g aB ub ++ (poW ap ar (nI nx) (nI (s_pz (t, z))) ++ (iaW g ai i0 i1 ++ (ioW i0 a0.1 s0 k0 ++ (ioW i1 a1.1 s1 k1 ++ (twW g a0 u0 ++ (twW g a1 u1 ++ (raW g ar ad ++ (rgW g ad cs 20)))))))))))) H := hP
  have hD : va_D A ((twW g aN un) ++ (xoW x0 aN aT ap aB.1 ai (nI (s_sd (t, z))) ++ (twW g aT ut ++ (bkW g aB ub ++ (poW ap ar (nI nx) (nI (s_pz (t, z))) ++ (iaW g ai i0 i1 ++ (ioW i0 a0.1 s0 k0 ++ (ioW i1 a1.1 s1 k1 ++ (twW g a0 u0 ++ (twW g a1 u1 ++ (raW g ar ad ++ (rgW g ad cs 20)))))))))))) := hD
  have hP := sp_P_perm (w2 := xoW x0 aN aT ap aB.1 ai (nI (s_sd (t, z))) ++ (twW g aN un ++ (twW g aT ut ++ (bkW g aB ub ++ (poW ap ar (nI nx) (nI (s_pz (t, z))) ++ (iaW g ai i0 i1 ++ (ioW i0 a0.1 s0 k0 ++ (ioW i1 a1.1 s1 k1 ++ (twW g a0 u0 ++ (twW g a1 u1 ++ (raW g ar ad ++ (rgW g ad cs 20)))))))))))) ((List.perm_append_comm_assoc _ _ _)) hP
  have hD := sp_D_perm (w2 := xoW x0 aN aT ap aB.1 ai (nI (s_sd (t, z))) ++ (twW g aN un ++ (twW g aT ut ++ (bkW g aB ub ++ (poW ap ar (nI nx) (nI (s_pz (t, z))) ++ (iaW g ai i0 i1 ++ (ioW i0 a0.1 s0 k0 ++ (ioW i1 a1.1 s1 k1 ++ (twW g a0 u0 ++ (twW g a1 u1 ++ (raW g ar ad ++ (rgW g ad cs 20)))))))))))) ((List.perm_append_comm_assoc _ _ _)) hD
  refine lv_if_eq (tgt := 33) hx hb dX4_would_8 (by decide) (fun c1 => ?_) (fun c1 => ?_)
  · have c1 := sp_b0.mp c1
    refine lv_ldc (v := (-1000000001)) hx hb hown (hts _ (List.mem_of_getElem? (i := 2) rfl)) dX4_would_33 ?_
    exact hend _ _ _ _ _ ((s_sd (t, z)), (s_pz (t, z)), nx, un, ut, ub, s0, k0, s1, k1, u0, u1, cs) dX4_would_35 (⟨by first | exact (o_would_3 hn8 hj (hb3.symm.trans c3)).symm | exact (o_would_2 (hb2.symm.trans c2)).symm | exact (o_would_1 (hbb.symm.trans c1)).symm, ⟨⟨rfl, rfl⟩, hR, hRB, hRP, h0, h1⟩⟩) hP hD hS
  · have c1 := sp_b0n.mp c1
    obtain ⟨j, hj, rfl⟩ := sp_has_t (hbb.symm.trans c1) hn8
    refine lv_aload_n hx hb dX4_would_11 rfl (lv_at hl 0 rfl) ?_
    refine va_get (D := g.1) (ci := 4) (v := .ref aN.1) (C := RX4) (T := TX4) (N := 6) hx hb hts inX4 hown hK.1 hP 0 rfl rfl 0 (by decide) (hts _ (List.mem_of_getElem? (i := 1) rfl)) (fun _ h9 => h9) rfl dX4_would_12 ?_
    refine lv_iload_n hx hb dX4_would_15 rfl (lv_at hl 2 rfl) ?_
    have hP := sp_P_perm (w2 := (twW g aN un) ++ (xoW x0 aN aT ap aB.1 ai (nI (s_sd (t, z))) ++ (twW g aT ut ++ (bkW g aB ub ++ (poW ap ar (nI nx) (nI (s_pz (t, z))) ++ (iaW g ai i0 i1 ++ (ioW i0 a0.1 s0 k0 ++ (ioW i1 a1.1 s1 k1 ++ (twW g a0 u0 ++ (twW g a1 u1 ++ (raW g ar ad ++ (rgW g ad cs 20)))))))))))) ((List.perm_append_comm_assoc _ _ _)) hP
    have hD := sp_D_perm (w2 := (twW g aN un) ++ (xoW x0 aN aT ap aB.1 ai (nI (s_sd (t, z))) ++ (twW g aT ut ++ (bkW g aB ub ++ (poW ap ar (nI nx) (nI (s_pz (t, z))) ++ (iaW g ai i0 i1 ++ (ioW i0 a0.1 s0 k0 ++ (ioW i1 a1.1 s1 k1 ++ (twW g a0 u0 ++ (twW g a1 u1 ++ (raW g ar ad ++ (rgW g ad cs 20)))))))))))) ((List.perm_append_comm_assoc _ _ _)) hD
    refine sp_vi (n := 1) SF hK hA (c_X3_has l g aN un t hR hI w0) gX4_would_X3_has rfl rfl rfl (by decide +kernel) rfl ⟨Nat.le_of_ble_eq_true rfl, Nat.le_of_ble_eq_true rfl⟩ 3 0 rfl rfl hP hD hS hl.1 rfl (Nat.le_of_ble_eq_true rfl) dX4_would_16 (fun r9 u9 H locs hb2 hP hD hS => ?_)
    obtain ⟨b2, rfl, hb2⟩ := hb2
    have hP : va_P g.1 vwCl ((twW g aN un) ++ (xoW x0 aN aT ap aB.1 ai (nI (s_sd (t, z))) ++ (twW g aT ut ++ (bkW g aB ub ++ (poW ap ar (nI nx) (nI (s_pz (t, z))) ++ (iaW g ai i0 i1 ++ (ioW i0 a0.1 s0 k0 ++ (ioW i1 a1.1 s1 k1 ++ (twW g a0 u0 ++ (twW g a1 u1 ++ (raW g ar ad ++ (rgW g ad cs 20)))))))))))) H := hP
    have hD : va_D A ((twW g aN un) ++ (xoW x0 aN aT ap aB.1 ai (nI (s_sd (t, z))) ++ (twW g aT ut ++ (bkW g aB ub ++ (poW ap ar (nI nx) (nI (s_pz (t, z))) ++ (iaW g ai i0 i1 ++ (ioW i0 a0.1 s0 k0 ++ (ioW i1 a1.1 s1 k1 ++ (twW g a0 u0 ++ (twW g a1 u1 ++ (raW g ar ad ++ (rgW g ad cs 20)))))))))))) := hD
    have hP := sp_P_perm (w2 := xoW x0 aN aT ap aB.1 ai (nI (s_sd (t, z))) ++ (twW g aN un ++ (twW g aT ut ++ (bkW g aB ub ++ (poW ap ar (nI nx) (nI (s_pz (t, z))) ++ (iaW g ai i0 i1 ++ (ioW i0 a0.1 s0 k0 ++ (ioW i1 a1.1 s1 k1 ++ (twW g a0 u0 ++ (twW g a1 u1 ++ (raW g ar ad ++ (rgW g ad cs 20)))))))))))) ((List.perm_append_comm_assoc _ _ _)) hP
    have hD := sp_D_perm (w2 := xoW x0 aN aT ap aB.1 ai (nI (s_sd (t, z))) ++ (twW g aN un ++ (twW g aT ut ++ (bkW g aB ub ++ (poW ap ar (nI nx) (nI (s_pz (t, z))) ++ (iaW g ai i0 i1 ++ (ioW i0 a0.1 s0 k0 ++ (ioW i1 a1.1 s1 k1 ++ (twW g a0 u0 ++ (twW g a1 u1 ++ (raW g ar ad ++ (rgW g ad cs 20)))))))))))) ((List.perm_append_comm_assoc _ _ _)) hD
    refine lv_if_eq (tgt := 33) hx hb dX4_would_19 (by decide) (fun c2 => ?_) (fun c2 => ?_)
    · have c2 := sp_b0.mp c2
      refine lv_ldc (v := (-1000000001)) hx hb hown (hts _ (List.mem_of_getElem? (i := 2) rfl)) dX4_would_33 ?_
      exact hend _ _ _ _ _ ((s_sd (t, z)), (s_pz (t, z)), nx, un, ut, ub, s0, k0, s1, k1, u0, u1, cs) dX4_would_35 (⟨by first | exact (o_would_3 hn8 hj (hb3.symm.trans c3)).symm | exact (o_would_2 (hb2.symm.trans c2)).symm | exact (o_would_1 (hbb.symm.trans c1)).symm, ⟨⟨rfl, rfl⟩, hR, hRB, hRP, h0, h1⟩⟩) hP hD hS
    · have c2 := sp_b0n.mp c2
      obtain ⟨f, hf, rfl⟩ := sp_has_t (hb2.symm.trans c2) hn8
      refine lv_aload_n hx hb dX4_would_22 rfl (lv_at hl 0 rfl) ?_
      refine va_get (D := g.1) (ci := 4) (v := .ref aN.1) (C := RX4) (T := TX4) (N := 6) hx hb hts inX4 hown hK.1 hP 0 rfl rfl 0 (by decide) (hts _ (List.mem_of_getElem? (i := 1) rfl)) (fun _ h9 => h9) rfl dX4_would_23 ?_
      refine lv_iload_n hx hb dX4_would_26 rfl (lv_at hl 1 rfl) ?_
      have hP := sp_P_perm (w2 := (twW g aN un) ++ (xoW x0 aN aT ap aB.1 ai (nI (s_sd (t, z))) ++ (twW g aT ut ++ (bkW g aB ub ++ (poW ap ar (nI nx) (nI (s_pz (t, z))) ++ (iaW g ai i0 i1 ++ (ioW i0 a0.1 s0 k0 ++ (ioW i1 a1.1 s1 k1 ++ (twW g a0 u0 ++ (twW g a1 u1 ++ (raW g ar ad ++ (rgW g ad cs 20)))))))))))) ((List.perm_append_comm_assoc _ _ _)) hP
      have hD := sp_D_perm (w2 := (twW g aN un) ++ (xoW x0 aN aT ap aB.1 ai (nI (s_sd (t, z))) ++ (twW g aT ut ++ (bkW g aB ub ++ (poW ap ar (nI nx) (nI (s_pz (t, z))) ++ (iaW g ai i0 i1 ++ (ioW i0 a0.1 s0 k0 ++ (ioW i1 a1.1 s1 k1 ++ (twW g a0 u0 ++ (twW g a1 u1 ++ (raW g ar ad ++ (rgW g ad cs 20)))))))))))) ((List.perm_append_comm_assoc _ _ _)) hD
      refine sp_vi (n := 1) SF hK hA (c_X3_isPropped l g aN un t hR hI j (by omega)) gX4_would_X3_isPropped rfl rfl rfl (by decide +kernel) rfl ⟨Nat.le_of_ble_eq_true rfl, Nat.le_of_ble_eq_true rfl⟩ 3 0 rfl rfl hP hD hS hl.1 rfl (Nat.le_of_ble_eq_true rfl) dX4_would_27 (fun r9 u9 H locs hb3 hP hD hS => ?_)
      obtain ⟨b3, rfl, hb3⟩ := hb3
      have hP : va_P g.1 vwCl ((twW g aN un) ++ (xoW x0 aN aT ap aB.1 ai (nI (s_sd (t, z))) ++ (twW g aT ut ++ (bkW g aB ub ++ (poW ap ar (nI nx) (nI (s_pz (t, z))) ++ (iaW g ai i0 i1 ++ (ioW i0 a0.1 s0 k0 ++ (ioW i1 a1.1 s1 k1 ++ (twW g a0 u0 ++ (twW g a1 u1 ++ (raW g ar ad ++ (rgW g ad cs 20)))))))))))) H := hP
      have hD : va_D A ((twW g aN un) ++ (xoW x0 aN aT ap aB.1 ai (nI (s_sd (t, z))) ++ (twW g aT ut ++ (bkW g aB ub ++ (poW ap ar (nI nx) (nI (s_pz (t, z))) ++ (iaW g ai i0 i1 ++ (ioW i0 a0.1 s0 k0 ++ (ioW i1 a1.1 s1 k1 ++ (twW g a0 u0 ++ (twW g a1 u1 ++ (raW g ar ad ++ (rgW g ad cs 20)))))))))))) := hD
      have hP := sp_P_perm (w2 := xoW x0 aN aT ap aB.1 ai (nI (s_sd (t, z))) ++ (twW g aN un ++ (twW g aT ut ++ (bkW g aB ub ++ (poW ap ar (nI nx) (nI (s_pz (t, z))) ++ (iaW g ai i0 i1 ++ (ioW i0 a0.1 s0 k0 ++ (ioW i1 a1.1 s1 k1 ++ (twW g a0 u0 ++ (twW g a1 u1 ++ (raW g ar ad ++ (rgW g ad cs 20)))))))))))) ((List.perm_append_comm_assoc _ _ _)) hP
      have hD := sp_D_perm (w2 := xoW x0 aN aT ap aB.1 ai (nI (s_sd (t, z))) ++ (twW g aN un ++ (twW g aT ut ++ (bkW g aB ub ++ (poW ap ar (nI nx) (nI (s_pz (t, z))) ++ (iaW g ai i0 i1 ++ (ioW i0 a0.1 s0 k0 ++ (ioW i1 a1.1 s1 k1 ++ (twW g a0 u0 ++ (twW g a1 u1 ++ (raW g ar ad ++ (rgW g ad cs 20)))))))))))) ((List.perm_append_comm_assoc _ _ _)) hD
      refine lv_if_ne (tgt := 36) hx hb dX4_would_30 (by decide) (fun c3 => ?_) (fun c3 => ?_)
      · have c3 := sp_b0n.mp c3
        refine lv_aload_n hx hb dX4_would_36 rfl (lv_at hl 0 rfl) ?_
        refine lv_iload_n hx hb dX4_would_37 rfl (lv_at hl 1 rfl) ?_
        refine lv_iconst (v := nI 0) hx hb dX4_would_38 (by decide) ?_
        have hP := sp_P_perm (w2 := (xoW x0 aN aT ap aB.1 ai (nI (s_sd (t, z))) ++ (twW g aN un ++ (twW g aT ut))) ++ (bkW g aB ub ++ (poW ap ar (nI nx) (nI (s_pz (t, z))) ++ (iaW g ai i0 i1 ++ (ioW i0 a0.1 s0 k0 ++ (ioW i1 a1.1 s1 k1 ++ (twW g a0 u0 ++ (twW g a1 u1 ++ (raW g ar ad ++ (rgW g ad cs 20)))))))))) ((List.Perm.refl _).trans (List.Perm.of_eq (by simp only [List.append_assoc]))) hP
        have hD := sp_D_perm (w2 := (xoW x0 aN aT ap aB.1 ai (nI (s_sd (t, z))) ++ (twW g aN un ++ (twW g aT ut))) ++ (bkW g aB ub ++ (poW ap ar (nI nx) (nI (s_pz (t, z))) ++ (iaW g ai i0 i1 ++ (ioW i0 a0.1 s0 k0 ++ (ioW i1 a1.1 s1 k1 ++ (twW g a0 u0 ++ (twW g a1 u1 ++ (raW g ar ad ++ (rgW g ad cs 20)))))))))) ((List.Perm.refl _).trans (List.Perm.of_eq (by simp only [List.append_assoc]))) hD
        refine sp_vi (n := 2) SF hK hA (c_X4_tryStrike l g x0 aN aT ap aB.1 ai (nI (s_sd (t, z))) un ut t hR hI (nI j) 0 (by omega)) gX4_would_X4_tryStrike rfl rfl rfl (by decide +kernel) rfl ⟨Nat.le_of_ble_eq_true rfl, Nat.le_of_ble_eq_true rfl⟩ 4 0 rfl rfl hP hD hS hl.1 rfl (Nat.le_of_ble_eq_true rfl) dX4_would_39 (fun r9 u2 H locs hw1 hP hD hS => ?_)
        obtain ⟨b1, rfl, hw1⟩ := hw1
        have hP : va_P g.1 vwCl ((xoW x0 aN aT ap aB.1 ai (nI (s_sd (t, z))) ++ (twW g aN un ++ (twW g aT u2))) ++ (bkW g aB ub ++ (poW ap ar (nI nx) (nI (s_pz (t, z))) ++ (iaW g ai i0 i1 ++ (ioW i0 a0.1 s0 k0 ++ (ioW i1 a1.1 s1 k1 ++ (twW g a0 u0 ++ (twW g a1 u1 ++ (raW g ar ad ++ (rgW g ad cs 20)))))))))) H := hP
        have hD : va_D A ((xoW x0 aN aT ap aB.1 ai (nI (s_sd (t, z))) ++ (twW g aN un ++ (twW g aT u2))) ++ (bkW g aB ub ++ (poW ap ar (nI nx) (nI (s_pz (t, z))) ++ (iaW g ai i0 i1 ++ (ioW i0 a0.1 s0 k0 ++ (ioW i1 a1.1 s1 k1 ++ (twW g a0 u0 ++ (twW g a1 u1 ++ (raW g ar ad ++ (rgW g ad cs 20)))))))))) := hD
        have hP := sp_P_perm (w2 := xoW x0 aN aT ap aB.1 ai (nI (s_sd (t, z))) ++ (twW g aN un ++ (twW g aT u2 ++ (bkW g aB ub ++ (poW ap ar (nI nx) (nI (s_pz (t, z))) ++ (iaW g ai i0 i1 ++ (ioW i0 a0.1 s0 k0 ++ (ioW i1 a1.1 s1 k1 ++ (twW g a0 u0 ++ (twW g a1 u1 ++ (raW g ar ad ++ (rgW g ad cs 20)))))))))))) ((List.Perm.of_eq (by simp only [List.append_assoc])).trans (List.Perm.refl _)) hP
        have hD := sp_D_perm (w2 := xoW x0 aN aT ap aB.1 ai (nI (s_sd (t, z))) ++ (twW g aN un ++ (twW g aT u2 ++ (bkW g aB ub ++ (poW ap ar (nI nx) (nI (s_pz (t, z))) ++ (iaW g ai i0 i1 ++ (ioW i0 a0.1 s0 k0 ++ (ioW i1 a1.1 s1 k1 ++ (twW g a0 u0 ++ (twW g a1 u1 ++ (raW g ar ad ++ (rgW g ad cs 20)))))))))))) ((List.Perm.of_eq (by simp only [List.append_assoc])).trans (List.Perm.refl _)) hD
        refine lv_pop hx hb dX4_would_42 rfl ?_
        have hs1 : sp_R u2 (sp_stk t j) := hw1.2 j rfl hj (hb3.symm.trans c3)
        refine lv_aload_n hx hb dX4_would_43 rfl (lv_at hl 0 rfl) ?_
        refine va_get (D := g.1) (ci := 4) (v := .ref aT.1) (C := RX4) (T := TX4) (N := 6) hx hb hts inX4 hown hK.1 hP 0 rfl rfl 1 (by decide) (hts _ (List.mem_of_getElem? (i := 3) rfl)) (fun _ h9 => h9) rfl dX4_would_44 ?_
        refine va_get (D := g.1) (ci := 3) (v := .ref aT.2.2.2.2.1) (C := RX3) (T := TX3) (N := 8) hx hb hts inX3 hown hK.1 hP 7 rfl rfl 3 (by decide) (hts _ (List.mem_of_getElem? (i := 4) rfl)) (fun _ h9 => h9) rfl dX4_would_47 ?_
        refine lv_iload_n hx hb dX4_would_50 rfl (lv_at hl 2 rfl) ?_
        refine va_iald hx hb hK.1 hP 11 0 rfl rfl (vp_in_nI (by omega) (by omega)) dX4_would_51 ?_
        refine sp_top (y := u2.2.2.2.1 f) (congrArg u2.2.2.2.1 (sp_c8 (k := f) (by omega))) ?_
        refine sp_top (y := tlo (sp_stk t j) f) (hs1.lo (by rw [sp_stk_n]; omega)) ?_
        refine lv_sipush (v := nI 1000) hx hb dX4_would_52 (by decide) ?_
        refine lv_iadd hx hb dX4_would_55 ?_
        exact hend _ _ _ _ _ ((s_sd (t, z)), (s_pz (t, z)), nx, un, u2, ub, s0, k0, s1, k1, u0, u1, cs) dX4_would_56 (⟨(o_would_in hn8 hj hf (hb3.symm.trans c3)).symm, ⟨⟨rfl, rfl⟩, hR, hRB, hRP, h0, h1⟩⟩) hP hD hS
      · have c3 := sp_b0.mp c3
        refine lv_ldc (v := (-1000000001)) hx hb hown (hts _ (List.mem_of_getElem? (i := 2) rfl)) dX4_would_33 ?_
        exact hend _ _ _ _ _ ((s_sd (t, z)), (s_pz (t, z)), nx, un, ut, ub, s0, k0, s1, k1, u0, u1, cs) dX4_would_35 (⟨by first | exact (o_would_3 hn8 hj (hb3.symm.trans c3)).symm | exact (o_would_2 (hb2.symm.trans c2)).symm | exact (o_would_1 (hbb.symm.trans c1)).symm, ⟨⟨rfl, rfl⟩, hR, hRB, hRP, h0, h1⟩⟩) hP hD hS

set_option maxHeartbeats 4000000 in
set_option maxRecDepth 100000 in
theorem c_X4_cycle (l : Launch) (g : sp_G) (K : sp_AD) (c : sp_C0) (x : sp_S) (hX : sp_C c x) (B : Nat) (hJ : sp_J x B) (hB : B ≤ 150000) (m0 : Int32) : sp_CI l g yX4_cycle wsX4_cycle ({ frames := 5, cells := 0, slots := 0, locals := 121 }) [.ref K.1, .int m0] (xW g K c) (fun r (c : sp_C0) => r = o_cycle (s_now x) m0 ∧ sp_C c x) (fun c => xW g K c) := by
  obtain ⟨x0, aN, aT, aB, ap, ai, i0, i1, a0, a1, ar, ad⟩ := K
  obtain ⟨sd, pz, nx, un, ut, ub, s0, k0, s1, k1, u0, u1, cs⟩ := c
  obtain ⟨t, z⟩ := x
  obtain ⟨⟨hsd, hpz⟩, hR, hRB, hRP, h0, h1⟩ := hX
  dsimp only at hsd hpz hR hRB hRP h0 h1
  subst hsd
  subst hpz
  have hR : sp_R un t := hR
  have hI : sp_I t := hJ.now
  have hn8 := hI.n
  have hdB : td t ≤ B := hJ.d
  have hpz20 := hJ.pz
  have hnx := hRP.1
  have hbn20 := hJ.bn
  refine sp_CI.of (cc := cX4_cycle) (maxL := 3) (by decide) rfl (Nat.le_of_ble_eq_true rfl) ?_
  intro p e s m below meth c Q A ls SF hK hP hD hA hl hend
  have hx := SF.1
  have hb := SF.2.1
  have hown : s.vm.findClass RX4 = some m.cls := SF.2.2.2.1
  have hts := SF.2.2.2.2
  have hS : va_S A s.heap s.heap [] := va_S.rf
  have inX4 : ∀ w ∈ wsX40, w ∈ wsX4_cycle := fun w h => List.mem_cons_of_mem _ (List.mem_append_left _ (List.mem_append_right _ h))
  have inX3 : ∀ w ∈ wsX30, w ∈ wsX4_cycle := fun w h => List.mem_cons_of_mem _ (List.mem_append_right _ h)
  have hl : lv_has ls 3 [(0, .ref x0), (1, .int m0)] := hl
  have hP : va_P g.1 vwCl (xoW x0 aN aT ap aB.1 ai (nI (s_sd (t, z))) ++ (twW g aN un ++ (twW g aT ut ++ (bkW g aB ub ++ (poW ap ar (nI nx) (nI (s_pz (t, z))) ++ (iaW g ai i0 i1 ++ (ioW i0 a0.1 s0 k0 ++ (ioW i1 a1.1 s1 k1 ++ (twW g a0 u0 ++ (twW g a1 u1 ++ (raW g ar ad ++ (rgW g ad cs 20)))))))))))) s.heap := hP
  have hD : va_D A (xoW x0 aN aT ap aB.1 ai (nI (s_sd (t, z))) ++ (twW g aN un ++ (twW g aT ut ++ (bkW g aB ub ++ (poW ap ar (nI nx) (nI (s_pz (t, z))) ++ (iaW g ai i0 i1 ++ (ioW i0 a0.1 s0 k0 ++ (ioW i1 a1.1 s1 k1 ++ (twW g a0 u0 ++ (twW g a1 u1 ++ (raW g ar ad ++ (rgW g ad cs 20)))))))))))) := hD
  refine lv_iload_n hx hb dX4_cycle_0 rfl (lv_at hl 1 rfl) ?_
  refine lv_iconst (v := nI 1) hx hb dX4_cycle_1 (by decide) ?_
  refine lv_icmp_lt (tgt := 10) hx hb dX4_cycle_2 (by decide) (fun c1 => ?_) (fun c1 => ?_)
  · refine lv_ldc (v := (-1000000002)) hx hb hown (hts _ (List.mem_of_getElem? (i := 1) rfl)) dX4_cycle_10 ?_
    exact hend _ _ _ _ _ ((s_sd (t, z)), (s_pz (t, z)), nx, un, ut, ub, s0, k0, s1, k1, u0, u1, cs) dX4_cycle_12 (⟨(o_cycle_o (by first | exact (sp_inI_2 (sp_le_f c2)).symm | exact (sp_inI_1 c1).symm)).symm, ⟨⟨rfl, rfl⟩, hR, hRB, hRP, h0, h1⟩⟩) hP hD hS
  · refine lv_iload_n hx hb dX4_cycle_5 rfl (lv_at hl 1 rfl) ?_
    refine lv_iconst (v := nI 3) hx hb dX4_cycle_6 (by decide) ?_
    refine lv_icmp_le (tgt := 13) hx hb dX4_cycle_7 (by decide) (fun c2 => ?_) (fun c2 => ?_)
    · obtain ⟨mr, h5, h6, rfl⟩ := sp_inI_t (a := 1) (b := 3) (by omega) (by omega) (sp_inI_3 c1 (sp_le_t c2)).symm
      refine lv_iconst (v := nI 1) hx hb dX4_cycle_13 (by decide) ?_
      refine lv_istore_n (lv' := [(2, .int (nI 1)), (0, .ref x0), (1, .int (nI mr))]) hx hb dX4_cycle_14 rfl hl (by decide) rfl (fun ls hl => ?_)
      have hloop15 : ∀ (n15 : Nat) (cd : Nat) (uw : sp_U) (H : Heap) (locs : List Loc) (ls : Array Slot), (1 ≤ cd) → (cd ≤ 29) → (cyF t mr (29 - cd) cd = cyF t mr 28 1) → 29 - cd < n15 → va_P g.1 vwCl (xoW x0 aN aT ap aB.1 ai (nI (s_sd (t, z))) ++ (twW g aN un ++ (twW g aT uw ++ (bkW g aB ub ++ (poW ap ar (nI nx) (nI (s_pz (t, z))) ++ (iaW g ai i0 i1 ++ (ioW i0 a0.1 s0 k0 ++ (ioW i1 a1.1 s1 k1 ++ (twW g a0 u0 ++ (twW g a1 u1 ++ (raW g ar ad ++ (rgW g ad cs 20)))))))))))) H → va_D A (xoW x0 aN aT ap aB.1 ai (nI (s_sd (t, z))) ++ (twW g aN un ++ (twW g aT uw ++ (bkW g aB ub ++ (poW ap ar (nI nx) (nI (s_pz (t, z))) ++ (iaW g ai i0 i1 ++ (ioW i0 a0.1 s0 k0 ++ (ioW i1 a1.1 s1 k1 ++ (twW g a0 u0 ++ (twW g a1 u1 ++ (raW g ar ad ++ (rgW g ad cs 20)))))))))))) → va_S A s.heap H locs → lv_has ls 3 [(0, .ref x0), (1, .int (nI mr)), (2, .int (nI cd))] → W p l e ({ frames := 5, cells := 0, slots := 0, locals := 121 }) s m ([.ref x0, .int (nI mr)] : List Value).toArray below meth c H locs 0 0 Q (F0 m 15 ls []) := by
        intro n15
        induction n15 with
        | zero =>
          intro cd uw H locs ls hc1 hc2 hh h9
          exact absurd h9 (Nat.not_lt_zero _)
        | succ n15 ih15 =>
          intro cd uw H locs ls hc1 hc2 hh hm15 hP hD hS hl
          refine lv_iload_n hx hb dX4_cycle_15 rfl (lv_at hl 2 rfl) ?_
          refine lv_bipush (v := nI 28) hx hb dX4_cycle_16 (by decide) ?_
          refine lv_icmp_gt (tgt := 38) hx hb dX4_cycle_18 (by decide) (fun c3 => ?_) (fun c3 => ?_)
          · have c3 := (nI_ltI (by omega) (by omega)).mp c3
            refine lv_iconst (v := (-1)) hx hb dX4_cycle_38 (by decide) ?_
            exact hend _ _ _ _ _ ((s_sd (t, z)), (s_pz (t, z)), nx, un, uw, ub, s0, k0, s1, k1, u0, u1, cs) dX4_cycle_39 (⟨(by rw [← hh, cyF_e (by omega)] : (-1 : Int32) = cyF t mr 28 1).trans (o_cycle_y (t := t) h5 h6).symm, ⟨⟨rfl, rfl⟩, hR, hRB, hRP, h0, h1⟩⟩) hP hD hS
          · have c3 := mt (nI_ltI (by omega) (by omega)).mpr c3
            refine lv_aload_n hx hb dX4_cycle_21 rfl (lv_at hl 0 rfl) ?_
            refine lv_iload_n hx hb dX4_cycle_22 rfl (lv_at hl 1 rfl) ?_
            refine lv_iload_n hx hb dX4_cycle_23 rfl (lv_at hl 2 rfl) ?_
            have hP := sp_P_perm (w2 := (xoW x0 aN aT ap aB.1 ai (nI (s_sd (t, z))) ++ (twW g aN un ++ (twW g aT uw))) ++ (bkW g aB ub ++ (poW ap ar (nI nx) (nI (s_pz (t, z))) ++ (iaW g ai i0 i1 ++ (ioW i0 a0.1 s0 k0 ++ (ioW i1 a1.1 s1 k1 ++ (twW g a0 u0 ++ (twW g a1 u1 ++ (raW g ar ad ++ (rgW g ad cs 20)))))))))) ((List.Perm.refl _).trans (List.Perm.of_eq (by simp only [List.append_assoc]))) hP
            have hD := sp_D_perm (w2 := (xoW x0 aN aT ap aB.1 ai (nI (s_sd (t, z))) ++ (twW g aN un ++ (twW g aT uw))) ++ (bkW g aB ub ++ (poW ap ar (nI nx) (nI (s_pz (t, z))) ++ (iaW g ai i0 i1 ++ (ioW i0 a0.1 s0 k0 ++ (ioW i1 a1.1 s1 k1 ++ (twW g a0 u0 ++ (twW g a1 u1 ++ (raW g ar ad ++ (rgW g ad cs 20)))))))))) ((List.Perm.refl _).trans (List.Perm.of_eq (by simp only [List.append_assoc]))) hD
            refine sp_vi (n := 2) SF hK hA (c_X4_cycleHolds l g x0 aN aT ap aB.1 ai (nI (s_sd (t, z))) un uw t hR hI mr cd h5 h6 hc1 (by omega)) gX4_cycle_X4_cycleHolds rfl rfl rfl (by decide +kernel) rfl ⟨Nat.le_of_ble_eq_true rfl, Nat.le_of_ble_eq_true rfl⟩ 4 0 rfl rfl hP hD hS hl.1 rfl (Nat.le_of_ble_eq_true rfl) dX4_cycle_24 (fun r9 u2 H locs hw1 hP hD hS => ?_)
            obtain ⟨b1, rfl, hw1⟩ := hw1
            have hP : va_P g.1 vwCl ((xoW x0 aN aT ap aB.1 ai (nI (s_sd (t, z))) ++ (twW g aN un ++ (twW g aT u2))) ++ (bkW g aB ub ++ (poW ap ar (nI nx) (nI (s_pz (t, z))) ++ (iaW g ai i0 i1 ++ (ioW i0 a0.1 s0 k0 ++ (ioW i1 a1.1 s1 k1 ++ (twW g a0 u0 ++ (twW g a1 u1 ++ (raW g ar ad ++ (rgW g ad cs 20)))))))))) H := hP
            have hD : va_D A ((xoW x0 aN aT ap aB.1 ai (nI (s_sd (t, z))) ++ (twW g aN un ++ (twW g aT u2))) ++ (bkW g aB ub ++ (poW ap ar (nI nx) (nI (s_pz (t, z))) ++ (iaW g ai i0 i1 ++ (ioW i0 a0.1 s0 k0 ++ (ioW i1 a1.1 s1 k1 ++ (twW g a0 u0 ++ (twW g a1 u1 ++ (raW g ar ad ++ (rgW g ad cs 20)))))))))) := hD
            have hP := sp_P_perm (w2 := xoW x0 aN aT ap aB.1 ai (nI (s_sd (t, z))) ++ (twW g aN un ++ (twW g aT u2 ++ (bkW g aB ub ++ (poW ap ar (nI nx) (nI (s_pz (t, z))) ++ (iaW g ai i0 i1 ++ (ioW i0 a0.1 s0 k0 ++ (ioW i1 a1.1 s1 k1 ++ (twW g a0 u0 ++ (twW g a1 u1 ++ (raW g ar ad ++ (rgW g ad cs 20)))))))))))) ((List.Perm.of_eq (by simp only [List.append_assoc])).trans (List.Perm.refl _)) hP
            have hD := sp_D_perm (w2 := xoW x0 aN aT ap aB.1 ai (nI (s_sd (t, z))) ++ (twW g aN un ++ (twW g aT u2 ++ (bkW g aB ub ++ (poW ap ar (nI nx) (nI (s_pz (t, z))) ++ (iaW g ai i0 i1 ++ (ioW i0 a0.1 s0 k0 ++ (ioW i1 a1.1 s1 k1 ++ (twW g a0 u0 ++ (twW g a1 u1 ++ (raW g ar ad ++ (rgW g ad cs 20)))))))))))) ((List.Perm.of_eq (by simp only [List.append_assoc])).trans (List.Perm.refl _)) hD
            refine lv_if_eq (tgt := 32) hx hb dX4_cycle_27 (by decide) (fun c4 => ?_) (fun c4 => ?_)
            · have c4 := sp_b0.mp c4
              refine lv_iinc (v := nI (cd + 1)) (lv' := [(2, .int (nI (cd + 1))), (0, .ref x0), (1, .int (nI mr))]) hx hb dX4_cycle_32 hl (k := 2) rfl (nI_1 cd) (by decide) rfl (fun ls hl => ?_)
              refine lv_goto (tgt := 15) hx hb dX4_cycle_35 (by decide) ?_
              exact ih15 (cd + 1) u2 _ _ _ (by omega) (by omega) (by rw [← hh, cyF_f (by omega) (hw1.symm.trans c4)]) (by omega) hP hD hS (lv_sub hl [1, 2, 0] rfl)
            · have c4 := sp_b0n.mp c4
              refine lv_iload_n hx hb dX4_cycle_30 rfl (lv_at hl 2 rfl) ?_
              exact hend _ _ _ _ _ ((s_sd (t, z)), (s_pz (t, z)), nx, un, u2, ub, s0, k0, s1, k1, u0, u1, cs) dX4_cycle_31 (⟨(by rw [← hh, cyF_t (by omega) (hw1.symm.trans c4)] : nI cd = cyF t mr 28 1).trans (o_cycle_y (t := t) h5 h6).symm, ⟨⟨rfl, rfl⟩, hR, hRB, hRP, h0, h1⟩⟩) hP hD hS
      exact hloop15 (_ + 1) 1 ut _ _ _ (by omega) (by omega) (rfl) (Nat.lt_succ_self _) hP hD hS (lv_sub hl [1, 2, 0] rfl)
    · refine lv_ldc (v := (-1000000002)) hx hb hown (hts _ (List.mem_of_getElem? (i := 1) rfl)) dX4_cycle_10 ?_
      exact hend _ _ _ _ _ ((s_sd (t, z)), (s_pz (t, z)), nx, un, ut, ub, s0, k0, s1, k1, u0, u1, cs) dX4_cycle_12 (⟨(o_cycle_o (by first | exact (sp_inI_2 (sp_le_f c2)).symm | exact (sp_inI_1 c1).symm)).symm, ⟨⟨rfl, rfl⟩, hR, hRB, hRP, h0, h1⟩⟩) hP hD hS

