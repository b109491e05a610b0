set_option maxHeartbeats 4000000 in
set_option maxRecDepth 100000 in
theorem c_J6_bitCount_0f7a4 (l : Launch) (g : sp_G) (x : Nat) (hx8 : x < 256) : sp_CI l g yJ6_bitCount_0f7a4 wsJ6_bitCount_0f7a4 ({ frames := 0, cells := 0, slots := 0, locals := 0 }) [.int (nI x)] ([]) (fun z (_ : Unit) => z = nI (pcN x)) (fun _ => []) := by
  refine sp_CI.of (cc := cJ6_bitCount_0f7a4) (maxL := 1) (by decide) rfl (Nat.le_of_ble_eq_true rfl) ?_
  intro p e s m below meth c Q A ls SF hK hP hD hA hl hend
  have hx := SF.1
  have hb := SF.2.1
  have hown : s.vm.findClass RJ6 = some m.cls := SF.2.2.2.1
  have hts := SF.2.2.2.2
  have hS : va_S A s.heap s.heap [] := va_S.rf
  have hl : lv_has ls 1 [(0, .int (nI x))] := hl
  refine lv_iload_n hx hb dJ6_bitCount_0f7a4_0 rfl (lv_at hl 0 rfl) ?_
  refine lv_iload_n hx hb dJ6_bitCount_0f7a4_1 rfl (lv_at hl 0 rfl) ?_
  refine lv_iconst (v := nI 1) hx hb dJ6_bitCount_0f7a4_2 (by decide) ?_
  refine lv_iushr (v := ((nI x).toUInt32 >>> ((nI 1).toUInt32 &&& Int32.toUInt32 31)).toInt32) hx hb dJ6_bitCount_0f7a4_3 (rfl) ?_
  refine lv_ldcw (v := nI 1431655765) hx hb hown (hts _ (List.mem_of_getElem? (i := 1) rfl)) dJ6_bitCount_0f7a4_4 ?_
  refine lv_iand hx hb dJ6_bitCount_0f7a4_7 ?_
  refine lv_isub hx hb dJ6_bitCount_0f7a4_8 ?_
  refine sp_top (y := bc1 (nI x)) (rfl) ?_
  refine lv_istore_n (lv' := [(0, .int (bc1 (nI x)))]) hx hb dJ6_bitCount_0f7a4_9 rfl hl (by decide) rfl (fun ls hl => ?_)
  refine lv_iload_n hx hb dJ6_bitCount_0f7a4_10 rfl (lv_at hl 0 rfl) ?_
  refine lv_ldcw (v := nI 858993459) hx hb hown (hts _ (List.mem_of_getElem? (i := 2) rfl)) dJ6_bitCount_0f7a4_11 ?_
  refine lv_iand hx hb dJ6_bitCount_0f7a4_14 ?_
  refine lv_iload_n hx hb dJ6_bitCount_0f7a4_15 rfl (lv_at hl 0 rfl) ?_
  refine lv_iconst (v := nI 2) hx hb dJ6_bitCount_0f7a4_16 (by decide) ?_
  refine lv_iushr (v := ((bc1 (nI x)).toUInt32 >>> ((nI 2).toUInt32 &&& Int32.toUInt32 31)).toInt32) hx hb dJ6_bitCount_0f7a4_17 (rfl) ?_
  refine lv_ldcw (v := nI 858993459) hx hb hown (hts _ (List.mem_of_getElem? (i := 2) rfl)) dJ6_bitCount_0f7a4_18 ?_
  refine lv_iand hx hb dJ6_bitCount_0f7a4_21 ?_
  refine lv_iadd hx hb dJ6_bitCount_0f7a4_22 ?_
  refine sp_top (y := bc2 (bc1 (nI x))) (rfl) ?_
  refine lv_istore_n (lv' := [(0, .int (bc2 (bc1 (nI x))))]) hx hb dJ6_bitCount_0f7a4_23 rfl hl (by decide) rfl (fun ls hl => ?_)
  refine lv_iload_n hx hb dJ6_bitCount_0f7a4_24 rfl (lv_at hl 0 rfl) ?_
  refine lv_iload_n hx hb dJ6_bitCount_0f7a4_25 rfl (lv_at hl 0 rfl) ?_
  refine lv_iconst (v := nI 4) hx hb dJ6_bitCount_0f7a4_26 (by decide) ?_
  refine lv_iushr (v := ((bc2 (bc1 (nI x))).toUInt32 >>> ((nI 4).toUInt32 &&& Int32.toUInt32 31)).toInt32) hx hb dJ6_bitCount_0f7a4_27 (rfl) ?_
  refine lv_iadd hx hb dJ6_bitCount_0f7a4_28 ?_
  refine lv_ldcw (v := nI 252645135) hx hb hown (hts _ (List.mem_of_getElem? (i := 3) rfl)) dJ6_bitCount_0f7a4_29 ?_
  refine lv_iand hx hb dJ6_bitCount_0f7a4_32 ?_
  refine sp_top (y := bc3 (bc2 (bc1 (nI x)))) (rfl) ?_
  refine lv_istore_n (lv' := [(0, .int (bc3 (bc2 (bc1 (nI x)))))]) hx hb dJ6_bitCount_0f7a4_33 rfl hl (by decide) rfl (fun ls hl => ?_)
  refine lv_iload_n hx hb dJ6_bitCount_0f7a4_34 rfl (lv_at hl 0 rfl) ?_
  refine lv_iload_n hx hb dJ6_bitCount_0f7a4_35 rfl (lv_at hl 0 rfl) ?_
  refine lv_bipush (v := nI 8) hx hb dJ6_bitCount_0f7a4_36 (by decide) ?_
  refine lv_iushr (v := ((bc3 (bc2 (bc1 (nI x)))).toUInt32 >>> ((nI 8).toUInt32 &&& Int32.toUInt32 31)).toInt32) hx hb dJ6_bitCount_0f7a4_38 (rfl) ?_
  refine lv_iadd hx hb dJ6_bitCount_0f7a4_39 ?_
  refine sp_top (y := bc4 (bc3 (bc2 (bc1 (nI x))))) (rfl) ?_
  refine lv_istore_n (lv' := [(0, .int (bc4 (bc3 (bc2 (bc1 (nI x))))))]) hx hb dJ6_bitCount_0f7a4_40 rfl hl (by decide) rfl (fun ls hl => ?_)
  refine lv_iload_n hx hb dJ6_bitCount_0f7a4_41 rfl (lv_at hl 0 rfl) ?_
  refine lv_iload_n hx hb dJ6_bitCount_0f7a4_42 rfl (lv_at hl 0 rfl) ?_
  refine lv_bipush (v := nI 16) hx hb dJ6_bitCount_0f7a4_43 (by decide) ?_
  refine lv_iushr (v := ((bc4 (bc3 (bc2 (bc1 (nI x))))).toUInt32 >>> ((nI 16).toUInt32 &&& Int32.toUInt32 31)).toInt32) hx hb dJ6_bitCount_0f7a4_45 (rfl) ?_
  refine lv_iadd hx hb dJ6_bitCount_0f7a4_46 ?_
  refine sp_top (y := bc5 (bc4 (bc3 (bc2 (bc1 (nI x)))))) (rfl) ?_
  refine lv_istore_n (lv' := [(0, .int (bc5 (bc4 (bc3 (bc2 (bc1 (nI x)))))))]) hx hb dJ6_bitCount_0f7a4_47 rfl hl (by decide) rfl (fun ls hl => ?_)
  refine lv_iload_n hx hb dJ6_bitCount_0f7a4_48 rfl (lv_at hl 0 rfl) ?_
  refine lv_bipush (v := nI 63) hx hb dJ6_bitCount_0f7a4_49 (by decide) ?_
  refine lv_iand hx hb dJ6_bitCount_0f7a4_51 ?_
  refine sp_top (y := nI (pcN x)) (sp_bc x hx8) ?_
  exact hend _ _ _ _ _ () dJ6_bitCount_0f7a4_52 (rfl) hP hD hS

set_option maxHeartbeats 4000000 in
set_option maxRecDepth 100000 in
theorem c_X0_add (l : Launch) (g : sp_G) (a : sp_A3) (u : sp_BU) (n : Nat) (hn : n < 20) (hu : u.2.2 = nI n) (x v : Int32) : sp_CV l g yX0_add wsX0_add ({ frames := 0, cells := 0, slots := 0, locals := 0 }) [.ref a.1, .int x, .int v] (bkW g a u) (fun _ : Unit => True) (fun _ => bkW g a (upd u.1 n x, upd u.2.1 n v, nI (n + 1))) := by
  refine sp_CV.of (cc := cX0_add) (maxL := 3) (by decide) rfl (Nat.le_of_ble_eq_true rfl) ?_
  intro p e s m below meth c Q A ls SF hK hP hD hA hl hend
  have hx := SF.1
  have hb := SF.2.1
  have hown : s.vm.findClass RX0 = some m.cls := SF.2.2.2.1
  have hts := SF.2.2.2.2
  have hS : va_S A s.heap s.heap [] := va_S.rf
  have inX0 : ∀ w ∈ wsX00, w ∈ wsX0_add := fun w h => List.mem_cons_of_mem _ (List.mem_append_right _ h)
  have hl : lv_has ls 3 [(0, .ref a.1), (1, .int x), (2, .int v)] := hl
  refine lv_aload_n hx hb dX0_add_0 rfl (lv_at hl 0 rfl) ?_
  refine va_get (D := g.1) (ci := 0) (v := .int u.2.2) (C := RX0) (T := TX0) (N := 3) hx hb hts inX0 hown hK.1 hP 0 rfl rfl 2 (by decide) (hts _ (List.mem_of_getElem? (i := 1) rfl)) (fun _ h9 => h9) rfl dX0_add_1 ?_
  refine sp_top (y := nI n) (hu) ?_
  refine lv_bipush (v := nI 20) hx hb dX0_add_4 (by decide) ?_
  refine lv_icmp_lt (tgt := 10) hx hb dX0_add_6 (by decide) (fun c1 => ?_) (fun c1 => ?_)
  · have c1 := (nI_ltI (by omega) (by omega)).mp c1
    refine lv_aload_n hx hb dX0_add_10 rfl (lv_at hl 0 rfl) ?_
    refine va_get (D := g.1) (ci := 0) (v := .ref a.2.1) (C := RX0) (T := TX0) (N := 3) hx hb hts inX0 hown hK.1 hP 0 rfl rfl 0 (by decide) (hts _ (List.mem_of_getElem? (i := 2) rfl)) (fun _ h9 => h9) rfl dX0_add_11 ?_
    refine lv_aload_n hx hb dX0_add_14 rfl (lv_at hl 0 rfl) ?_
    refine va_get (D := g.1) (ci := 0) (v := .int u.2.2) (C := RX0) (T := TX0) (N := 3) hx hb hts inX0 hown hK.1 hP 0 rfl rfl 2 (by decide) (hts _ (List.mem_of_getElem? (i := 1) rfl)) (fun _ h9 => h9) rfl dX0_add_15 ?_
    refine sp_top (y := nI n) (hu) ?_
    refine lv_iload_n hx hb dX0_add_18 rfl (lv_at hl 1 rfl) ?_
    refine va_iast hx hb hK.1 hP hD hS 1 0 rfl rfl (vp_in_nI (by omega) (by omega)) dX0_add_19 (fun H locs hP hD hS => ?_)
    rw [sp_c8 (k := n) (by omega)] at hP hD
    have hP : va_P g.1 vwCl (bkW g a ((upd u.1 n x), u.2.1, u.2.2)) H := hP
    have hD : va_D A (bkW g a ((upd u.1 n x), u.2.1, u.2.2)) := hD
    refine lv_aload_n hx hb dX0_add_20 rfl (lv_at hl 0 rfl) ?_
    refine va_get (D := g.1) (ci := 0) (v := .ref a.2.2) (C := RX0) (T := TX0) (N := 3) hx hb hts inX0 hown hK.1 hP 0 rfl rfl 1 (by decide) (hts _ (List.mem_of_getElem? (i := 3) rfl)) (fun _ h9 => h9) rfl dX0_add_21 ?_
    refine lv_aload_n hx hb dX0_add_24 rfl (lv_at hl 0 rfl) ?_
    refine va_get (D := g.1) (ci := 0) (v := .int u.2.2) (C := RX0) (T := TX0) (N := 3) hx hb hts inX0 hown hK.1 hP 0 rfl rfl 2 (by decide) (hts _ (List.mem_of_getElem? (i := 1) rfl)) (fun _ h9 => h9) rfl dX0_add_25 ?_
    refine sp_top (y := nI n) (hu) ?_
    refine lv_iload_n hx hb dX0_add_28 rfl (lv_at hl 2 rfl) ?_
    refine va_iast hx hb hK.1 hP hD hS 2 0 rfl rfl (vp_in_nI (by omega) (by omega)) dX0_add_29 (fun H locs hP hD hS => ?_)
    rw [sp_c8 (k := n) (by omega)] at hP hD
    have hP : va_P g.1 vwCl (bkW g a ((upd u.1 n x), (upd u.2.1 n v), u.2.2)) H := hP
    have hD : va_D A (bkW g a ((upd u.1 n x), (upd u.2.1 n v), u.2.2)) := hD
    refine lv_aload_n hx hb dX0_add_30 rfl (lv_at hl 0 rfl) ?_
    refine lv_dup hx hb dX0_add_31 rfl ?_
    refine va_get (D := g.1) (ci := 0) (v := .int u.2.2) (C := RX0) (T := TX0) (N := 3) hx hb hts inX0 hown hK.1 hP 0 rfl rfl 2 (by decide) (hts _ (List.mem_of_getElem? (i := 1) rfl)) (fun _ h9 => h9) rfl dX0_add_32 ?_
    refine sp_top (y := nI n) (hu) ?_
    refine lv_iconst (v := nI 1) hx hb dX0_add_35 (by decide) ?_
    refine lv_iadd hx hb dX0_add_36 ?_
    refine sp_top (y := nI (n + 1)) (nI_add _ _) ?_
    refine va_put (D := g.1) (ci := 0) (v := .int (nI (n + 1))) (ty := .int) (C := RX0) (T := TX0) (N := 3) hx hb hts inX0 tyX0 tyX0_ok nmX0 hown hK.1 hP hD hS 0 rfl rfl 2 (by decide) (hts _ (List.mem_of_getElem? (i := 1) rfl)) (fun _ h9 => h9) rfl (by decide +kernel) rfl rfl (Nat.le_of_ble_eq_true rfl) dX0_add_37 (fun H locs hP hD hS => ?_)
    have hP : va_P g.1 vwCl (bkW g a ((upd u.1 n x), (upd u.2.1 n v), (nI (n + 1)))) H := hP
    have hD : va_D A (bkW g a ((upd u.1 n x), (upd u.2.1 n v), (nI (n + 1)))) := hD
    exact hend _ _ _ _ () dX0_add_40 (trivial) hP hD hS
  · have c1 := mt (nI_ltI (by omega) (by omega)).mpr c1
    exact absurd hn c1

set_option maxHeartbeats 4000000 in
set_option maxRecDepth 100000 in
theorem c_X0_firstWrong (l : Launch) (g : sp_G) (a : sp_A3) (u : sp_BU) (b : sp_A) (w : sp_U) (t : sp_T) (hR : sp_R w t) (hI : sp_I t) (bn : Nat) (bf : Nat → Nat) (bl : Nat → Int32) (hbn : bn ≤ 20) (hbf : ∀ k, k < bn → bf k < 8) (hu : u.2.2 = nI bn) (hfl : ∀ k, k < bn → u.1 k = nI (bf k)) (hld : ∀ k, k < bn → u.2.1 k = bl k) : sp_CI l g yX0_firstWrong wsX0_firstWrong ({ frames := 1, cells := 0, slots := 0, locals := 21 }) [.ref a.1, .ref b.1] (bkW g a u ++ (twW g b w)) (fun z (_ : Unit) => z = wrF t bf bl bn 0) (fun _ => bkW g a u ++ twW g b w) := by
  refine sp_CI.of (cc := cX0_firstWrong) (maxL := 3) (by decide) rfl (Nat.le_of_ble_eq_true rfl) ?_
  intro p e s m below meth c Q A ls SF hK hP hD hA hl hend
  have hx := SF.1
  have hb := SF.2.1
  have hown : s.vm.findClass RX0 = some m.cls := SF.2.2.2.1
  have hts := SF.2.2.2.2
  have hS : va_S A s.heap s.heap [] := va_S.rf
  have inX0 : ∀ w ∈ wsX00, w ∈ wsX0_firstWrong := fun w h => List.mem_cons_of_mem _ (List.mem_append_left _ (List.mem_append_right _ h))
  have inX3 : ∀ w ∈ wsX30, w ∈ wsX0_firstWrong := fun w h => List.mem_cons_of_mem _ (List.mem_append_right _ h)
  have hl : lv_has ls 3 [(0, .ref a.1), (1, .ref b.1)] := hl
  have hn8 := hI.n
  refine lv_iconst (v := nI 0) hx hb dX0_firstWrong_0 (by decide) ?_
  refine lv_istore_n (lv' := [(2, .int (nI 0)), (0, .ref a.1), (1, .ref b.1)]) hx hb dX0_firstWrong_1 rfl hl (by decide) rfl (fun ls hl => ?_)
  have hloop2 : ∀ (n2 : Nat) (k : Nat) (H : Heap) (locs : List Loc) (ls : Array Slot), (k ≤ bn) → (wrF t bf bl (bn - k) k = wrF t bf bl bn 0) → bn - k < n2 → va_P g.1 vwCl (bkW g a u ++ (twW g b w)) H → va_D A (bkW g a u ++ (twW g b w)) → va_S A s.heap H locs → lv_has ls 3 [(0, .ref a.1), (1, .ref b.1), (2, .int (nI k))] → W p l e ({ frames := 1, cells := 0, slots := 0, locals := 21 }) s m ([.ref a.1, .ref b.1] : List Value).toArray below meth c H locs 0 0 Q (F0 m 2 ls []) := by
    intro n2
    induction n2 with
    | zero =>
      intro k H locs ls hk hh h9
      exact absurd h9 (Nat.not_lt_zero _)
    | succ n2 ih2 =>
      intro k H locs ls hk hh hm2 hP hD hS hl
      refine lv_iload_n hx hb dX0_firstWrong_2 rfl (lv_at hl 2 rfl) ?_
      refine lv_aload_n hx hb dX0_firstWrong_3 rfl (lv_at hl 0 rfl) ?_
      refine va_get (D := g.1) (ci := 0) (v := .int u.2.2) (C := RX0) (T := TX0) (N := 3) hx hb hts inX0 hown hK.1 hP 0 rfl rfl 2 (by decide) (hts _ (List.mem_of_getElem? (i := 1) rfl)) (fun _ h9 => h9) rfl dX0_firstWrong_4 ?_
      refine sp_top (y := nI bn) (hu) ?_
      refine lv_icmp_ge (tgt := 51) hx hb dX0_firstWrong_7 (by decide) (fun c1 => ?_) (fun c1 => ?_)
      · have c1 := (nI_leI (by omega) (by omega)).mp c1
        refine lv_iconst (v := (-1)) hx hb dX0_firstWrong_51 (by decide) ?_
        exact hend _ _ _ _ _ () dX0_firstWrong_52 (by rw [← hh, wrF_e (by omega)]) hP hD hS
      · have c1 := mt (nI_leI (by omega) (by omega)).mpr c1
        have hbk := hbf k (by omega)
        refine lv_aload_n hx hb dX0_firstWrong_10 rfl (lv_at hl 1 rfl) ?_
        refine lv_aload_n hx hb dX0_firstWrong_11 rfl (lv_at hl 0 rfl) ?_
        refine va_get (D := g.1) (ci := 0) (v := .ref a.2.1) (C := RX0) (T := TX0) (N := 3) hx hb hts inX0 hown hK.1 hP 0 rfl rfl 0 (by decide) (hts _ (List.mem_of_getElem? (i := 2) rfl)) (fun _ h9 => h9) rfl dX0_firstWrong_12 ?_
        refine lv_iload_n hx hb dX0_firstWrong_15 rfl (lv_at hl 2 rfl) ?_
        refine va_iald hx hb hK.1 hP 1 0 rfl rfl (vp_in_nI (by omega) (by omega)) dX0_firstWrong_16 ?_
        refine sp_top (y := u.1 k) (congrArg u.1 (sp_c8 (k := k) (by omega))) ?_
        refine sp_top (y := nI (bf k)) (hfl k (by omega)) ?_
        have hP := sp_P_perm (w2 := (twW g b w) ++ (bkW g a u)) ((List.perm_append_comm)) hP
        have hD := sp_D_perm (w2 := (twW g b w) ++ (bkW g a u)) ((List.perm_append_comm)) hD
        refine sp_vi (n := 1) SF hK hA (c_X3_has l g b w t hR hI (nI (bf k))) gX0_firstWrong_X3_has rfl rfl rfl (by decide +kernel) rfl ⟨Nat.le_of_ble_eq_true rfl, Nat.le_of_ble_eq_true rfl⟩ 3 0 rfl rfl hP hD hS hl.1 rfl (Nat.le_of_ble_eq_true rfl) dX0_firstWrong_17 (fun r9 u9 H locs hbb hP hD hS => ?_)
        obtain ⟨bb, rfl, hbb⟩ := hbb
        have hP : va_P g.1 vwCl ((twW g b w) ++ (bkW g a u)) H := hP
        have hD : va_D A ((twW g b w) ++ (bkW g a u)) := hD
        have hP := sp_P_perm (w2 := bkW g a u ++ (twW g b w)) ((List.perm_append_comm)) hP
        have hD := sp_D_perm (w2 := bkW g a u ++ (twW g b w)) ((List.perm_append_comm)) hD
        refine lv_if_eq (tgt := 43) hx hb dX0_firstWrong_20 (by decide) (fun c2 => ?_) (fun c2 => ?_)
        · have c2 := sp_b0.mp c2
          refine lv_iload_n hx hb dX0_firstWrong_43 rfl (lv_at hl 2 rfl) ?_
          exact hend _ _ _ _ _ () dX0_firstWrong_44 (by rw [← hh]; first | rw [wrF_b (by omega) (fun q => c4 q.2)] | rw [wrF_b (by omega) (fun q => sp_has_jn hn8 (hbb.symm.trans c2) q.1)]) hP hD hS
        · have c2 := sp_b0n.mp c2
          have hj : bf k < tn t := sp_has_j hn8 hbk (hbb.symm.trans c2)
          refine lv_aload_n hx hb dX0_firstWrong_23 rfl (lv_at hl 1 rfl) ?_
          refine va_get (D := g.1) (ci := 3) (v := .ref b.2.2.2.2.1) (C := RX3) (T := TX3) (N := 8) hx hb hts inX3 hown hK.1 hP 3 rfl rfl 3 (by decide) (hts _ (List.mem_of_getElem? (i := 3) rfl)) (fun _ h9 => h9) rfl dX0_firstWrong_24 ?_
          refine lv_aload_n hx hb dX0_firstWrong_27 rfl (lv_at hl 0 rfl) ?_
          refine va_get (D := g.1) (ci := 0) (v := .ref a.2.1) (C := RX0) (T := TX0) (N := 3) hx hb hts inX0 hown hK.1 hP 0 rfl rfl 0 (by decide) (hts _ (List.mem_of_getElem? (i := 2) rfl)) (fun _ h9 => h9) rfl dX0_firstWrong_28 ?_
          refine lv_iload_n hx hb dX0_firstWrong_31 rfl (lv_at hl 2 rfl) ?_
          refine va_iald hx hb hK.1 hP 1 0 rfl rfl (vp_in_nI (by omega) (by omega)) dX0_firstWrong_32 ?_
          refine sp_top (y := u.1 k) (congrArg u.1 (sp_c8 (k := k) (by omega))) ?_
          refine sp_top (y := nI (bf k)) (hfl k (by omega)) ?_
          refine va_iald hx hb hK.1 hP 7 0 rfl rfl (vp_in_nI (by omega) (by omega)) dX0_firstWrong_33 ?_
          refine sp_top (y := w.2.2.2.1 (bf k)) (congrArg w.2.2.2.1 (sp_c8 (k := (bf k)) (by omega))) ?_
          refine sp_top (y := tlo t (bf k)) (hR.lo hj) ?_
          refine lv_aload_n hx hb dX0_firstWrong_34 rfl (lv_at hl 0 rfl) ?_
          refine va_get (D := g.1) (ci := 0) (v := .ref a.2.2) (C := RX0) (T := TX0) (N := 3) hx hb hts inX0 hown hK.1 hP 0 rfl rfl 1 (by decide) (hts _ (List.mem_of_getElem? (i := 4) rfl)) (fun _ h9 => h9) rfl dX0_firstWrong_35 ?_
          refine lv_iload_n hx hb dX0_firstWrong_38 rfl (lv_at hl 2 rfl) ?_
          refine va_iald hx hb hK.1 hP 2 0 rfl rfl (vp_in_nI (by omega) (by omega)) dX0_firstWrong_39 ?_
          refine sp_top (y := u.2.1 k) (congrArg u.2.1 (sp_c8 (k := k) (by omega))) ?_
          refine sp_top (y := bl k) (hld k (by omega)) ?_
          refine lv_icmp_eq (tgt := 45) hx hb dX0_firstWrong_40 (by decide) (fun c4 => ?_) (fun c4 => ?_)
          · refine lv_iinc (v := nI (k + 1)) (lv' := [(2, .int (nI (k + 1))), (0, .ref a.1), (1, .ref b.1)]) hx hb dX0_firstWrong_45 hl (k := 2) rfl (nI_1 k) (by decide) rfl (fun ls hl => ?_)
            refine lv_goto (tgt := 2) hx hb dX0_firstWrong_48 (by decide) ?_
            exact ih2 (k + 1) _ _ _ (by omega) (by rw [← hh, wrF_g (by omega) hj c4]) (by omega) hP hD hS (lv_sub hl [1, 2, 0] rfl)
          · refine lv_iload_n hx hb dX0_firstWrong_43 rfl (lv_at hl 2 rfl) ?_
            exact hend _ _ _ _ _ () dX0_firstWrong_44 (by rw [← hh]; first | rw [wrF_b (by omega) (fun q => c4 q.2)] | rw [wrF_b (by omega) (fun q => sp_has_jn hn8 (hbb.symm.trans c2) q.1)]) hP hD hS
  exact hloop2 (_ + 1) 0 _ _ _ (Nat.zero_le _) (rfl) (Nat.lt_succ_self _) hP hD hS (lv_sub hl [1, 2, 0] rfl)

set_option maxHeartbeats 4000000 in
set_option maxRecDepth 100000 in
theorem c_X2_note (l : Launch) (g : sp_G) (ap ar : Nat) (ad : Nat → sp_A) (cs : Nat → sp_U) (nx pz : Nat) (hnx : nx < 20) (hpz : pz ≤ 20) (b : sp_A) (w : sp_U) (t : sp_T) (hR : sp_R w t) (hn8 : tn t ≤ 8) : sp_CV l g yX2_note wsX2_note ({ frames := 1, cells := 0, slots := 0, locals := 22 }) [.ref ap, .ref b.1] (poW ap ar (nI nx) (nI pz) ++ (raW g ar ad ++ (rgW g ad cs 20 ++ (twW g b w)))) (fun v : sp_U => sp_R v t) (fun v => poW ap ar (nI ((nx + 1) % 20)) (nI (min (pz + 1) 20)) ++ (raW g ar ad ++ (rgW g ad (updU cs nx v) 20 ++ twW g b w))) := by
  refine sp_CV.of (cc := cX2_note) (maxL := 2) (by decide) rfl (Nat.le_of_ble_eq_true rfl) ?_
  intro p e s m below meth c Q A ls SF hK hP hD hA hl hend
  have hx := SF.1
  have hb := SF.2.1
  have hown : s.vm.findClass RX2 = some m.cls := SF.2.2.2.1
  have hts := SF.2.2.2.2
  have hS : va_S A s.heap s.heap [] := va_S.rf
  have inX2 : ∀ w ∈ wsX20, w ∈ wsX2_note := fun w h => List.mem_cons_of_mem _ (List.mem_append_left _ (List.mem_append_right _ h))
  have inX3 : ∀ w ∈ wsX30, w ∈ wsX2_note := fun w h => List.mem_cons_of_mem _ (List.mem_append_right _ h)
  have hl : lv_has ls 2 [(0, .ref ap), (1, .ref b.1)] := hl
  refine lv_aload_n hx hb dX2_note_0 rfl (lv_at hl 0 rfl) ?_
  refine va_get (D := g.1) (ci := 2) (v := .ref ar) (C := RX2) (T := TX2) (N := 3) hx hb hts inX2 hown hK.1 hP 0 rfl rfl 0 (by decide) (hts _ (List.mem_of_getElem? (i := 1) rfl)) (fun _ h9 => h9) rfl dX2_note_1 ?_
  refine lv_aload_n hx hb dX2_note_4 rfl (lv_at hl 0 rfl) ?_
  refine va_get (D := g.1) (ci := 2) (v := .int (nI nx)) (C := RX2) (T := TX2) (N := 3) hx hb hts inX2 hown hK.1 hP 0 rfl rfl 1 (by decide) (hts _ (List.mem_of_getElem? (i := 2) rfl)) (fun _ h9 => h9) rfl dX2_note_5 ?_
  refine va_aldq hx hb hK.1 hP 1 4 rfl rfl (vp_in_nI (by omega) (by omega)) dX2_note_8 ?_
  refine sp_topv (w := .ref ((ad nx).1)) (by rw [sp_c8 (by omega)]; rfl) ?_
  refine lv_aload_n hx hb dX2_note_9 rfl (lv_at hl 1 rfl) ?_
  have hP := sp_P_perm (w2 := poW ap ar (nI nx) (nI pz) ++ (raW g ar ad ++ (twW g (ad nx) (cs nx) ++ (rgX g ad cs nx 20 ++ (twW g b w))))) ((List.Perm.append_left _ (List.Perm.append_left _ (List.Perm.append_right _ (rg_perm g ad cs nx 20 (by omega))))).trans (List.Perm.of_eq (by simp only [List.append_assoc]))) hP
  have hD := sp_D_perm (w2 := poW ap ar (nI nx) (nI pz) ++ (raW g ar ad ++ (twW g (ad nx) (cs nx) ++ (rgX g ad cs nx 20 ++ (twW g b w))))) ((List.Perm.append_left _ (List.Perm.append_left _ (List.Perm.append_right _ (rg_perm g ad cs nx 20 (by omega))))).trans (List.Perm.of_eq (by simp only [List.append_assoc]))) hD
  have hP := sp_P_perm (w2 := (twW g (ad nx) (cs nx) ++ (twW g b w)) ++ (poW ap ar (nI nx) (nI pz) ++ (raW g ar ad ++ (rgX g ad cs nx 20)))) (((List.Perm.append_left _ (List.perm_append_comm_assoc _ _ _)).trans ((List.perm_append_comm_assoc _ _ _).trans ((List.Perm.append_left _ (List.Perm.append_left _ (List.Perm.append_left _ (List.perm_append_comm)))).trans ((List.Perm.append_left _ (List.Perm.append_left _ (List.perm_append_comm_assoc _ _ _))).trans ((List.Perm.append_left _ (List.perm_append_comm_assoc _ _ _))))))).trans (List.Perm.of_eq (by simp only [List.append_assoc]))) hP
  have hD := sp_D_perm (w2 := (twW g (ad nx) (cs nx) ++ (twW g b w)) ++ (poW ap ar (nI nx) (nI pz) ++ (raW g ar ad ++ (rgX g ad cs nx 20)))) (((List.Perm.append_left _ (List.perm_append_comm_assoc _ _ _)).trans ((List.perm_append_comm_assoc _ _ _).trans ((List.Perm.append_left _ (List.Perm.append_left _ (List.Perm.append_left _ (List.perm_append_comm)))).trans ((List.Perm.append_left _ (List.Perm.append_left _ (List.perm_append_comm_assoc _ _ _))).trans ((List.Perm.append_left _ (List.perm_append_comm_assoc _ _ _))))))).trans (List.Perm.of_eq (by simp only [List.append_assoc]))) hD
  refine sp_vv (n := 1) SF hK hA (c_X3_copyFrom l g (ad nx) b (cs nx) w t hR hn8) gX2_note_X3_copyFrom rfl rfl rfl (by decide +kernel) rfl ⟨Nat.le_of_ble_eq_true rfl, Nat.le_of_ble_eq_true rfl⟩ 3 0 rfl rfl hP hD hS hl.1 rfl (Nat.le_of_ble_eq_true rfl) dX2_note_10 (fun u1 H locs hw1 hP hD hS => ?_)
  have hP : va_P g.1 vwCl ((twW g (ad nx) u1 ++ (twW g b w)) ++ (poW ap ar (nI nx) (nI pz) ++ (raW g ar ad ++ (rgX g ad cs nx 20)))) H := hP
  have hD : va_D A ((twW g (ad nx) u1 ++ (twW g b w)) ++ (poW ap ar (nI nx) (nI pz) ++ (raW g ar ad ++ (rgX g ad cs nx 20)))) := hD
  have hP := sp_P_perm (w2 := poW ap ar (nI nx) (nI pz) ++ (raW g ar ad ++ (twW g (ad nx) u1 ++ (rgX g ad cs nx 20 ++ (twW g b w))))) ((List.Perm.of_eq (by simp only [List.append_assoc])).trans ((List.Perm.append_left _ (List.perm_append_comm_assoc _ _ _)).trans ((List.perm_append_comm_assoc _ _ _).trans ((List.Perm.append_left _ (List.Perm.append_left _ (List.perm_append_comm_assoc _ _ _))).trans ((List.Perm.append_left _ (List.perm_append_comm_assoc _ _ _)).trans ((List.Perm.append_left _ (List.Perm.append_left _ (List.Perm.append_left _ (List.perm_append_comm)))))))))) hP
  have hD := sp_D_perm (w2 := poW ap ar (nI nx) (nI pz) ++ (raW g ar ad ++ (twW g (ad nx) u1 ++ (rgX g ad cs nx 20 ++ (twW g b w))))) ((List.Perm.of_eq (by simp only [List.append_assoc])).trans ((List.Perm.append_left _ (List.perm_append_comm_assoc _ _ _)).trans ((List.perm_append_comm_assoc _ _ _).trans ((List.Perm.append_left _ (List.Perm.append_left _ (List.perm_append_comm_assoc _ _ _))).trans ((List.Perm.append_left _ (List.perm_append_comm_assoc _ _ _)).trans ((List.Perm.append_left _ (List.Perm.append_left _ (List.Perm.append_left _ (List.perm_append_comm)))))))))) hD
  have hP := sp_P_perm (w2 := poW ap ar (nI nx) (nI pz) ++ (raW g ar ad ++ (rgW g ad (updU cs nx u1) 20 ++ (twW g b w)))) ((List.Perm.of_eq (by simp only [List.append_assoc])).trans (List.Perm.append_left _ (List.Perm.append_left _ (List.Perm.append_right _ (rg_back g ad cs nx u1 20 (by omega)))))) hP
  have hD := sp_D_perm (w2 := poW ap ar (nI nx) (nI pz) ++ (raW g ar ad ++ (rgW g ad (updU cs nx u1) 20 ++ (twW g b w)))) ((List.Perm.of_eq (by simp only [List.append_assoc])).trans (List.Perm.append_left _ (List.Perm.append_left _ (List.Perm.append_right _ (rg_back g ad cs nx u1 20 (by omega)))))) hD
  refine lv_aload_n hx hb dX2_note_13 rfl (lv_at hl 0 rfl) ?_
  refine lv_aload_n hx hb dX2_note_14 rfl (lv_at hl 0 rfl) ?_
  refine va_get (D := g.1) (ci := 2) (v := .int (nI nx)) (C := RX2) (T := TX2) (N := 3) hx hb hts inX2 hown hK.1 hP 0 rfl rfl 1 (by decide) (hts _ (List.mem_of_getElem? (i := 2) rfl)) (fun _ h9 => h9) rfl dX2_note_15 ?_
  refine lv_iconst (v := nI 1) hx hb dX2_note_18 (by decide) ?_
  refine lv_iadd hx hb dX2_note_19 ?_
  refine sp_top (y := nI (nx + 1)) (nI_add _ _) ?_
  refine lv_bipush (v := nI 20) hx hb dX2_note_20 (by decide) ?_
  refine lv_irem hx hb dX2_note_22 (sp_ne (by omega) (by omega)) ?_
  refine sp_top (y := nI ((nx + 1) % 20)) (sp_irem (by omega) (by omega) (by omega)) ?_
  refine va_put (D := g.1) (ci := 2) (v := .int (nI ((nx + 1) % 20))) (ty := .int) (C := RX2) (T := TX2) (N := 3) hx hb hts inX2 tyX2 tyX2_ok nmX2 hown hK.1 hP hD hS 0 rfl rfl 1 (by decide) (hts _ (List.mem_of_getElem? (i := 2) rfl)) (fun _ h9 => h9) rfl (by decide +kernel) rfl rfl (Nat.le_of_ble_eq_true rfl) dX2_note_23 (fun H locs hP hD hS => ?_)
  have hP : va_P g.1 vwCl (poW ap ar (nI ((nx + 1) % 20)) (nI pz) ++ (raW g ar ad ++ (rgW g ad (updU cs nx u1) 20 ++ (twW g b w)))) H := hP
  have hD : va_D A (poW ap ar (nI ((nx + 1) % 20)) (nI pz) ++ (raW g ar ad ++ (rgW g ad (updU cs nx u1) 20 ++ (twW g b w)))) := hD
  refine lv_aload_n hx hb dX2_note_26 rfl (lv_at hl 0 rfl) ?_
  refine lv_aload_n hx hb dX2_note_27 rfl (lv_at hl 0 rfl) ?_
  refine va_get (D := g.1) (ci := 2) (v := .int (nI pz)) (C := RX2) (T := TX2) (N := 3) hx hb hts inX2 hown hK.1 hP 0 rfl rfl 2 (by decide) (hts _ (List.mem_of_getElem? (i := 3) rfl)) (fun _ h9 => h9) rfl dX2_note_28 ?_
  refine lv_iconst (v := nI 1) hx hb dX2_note_31 (by decide) ?_
  refine lv_iadd hx hb dX2_note_32 ?_
  refine sp_top (y := nI (pz + 1)) (nI_add _ _) ?_
  refine lv_bipush (v := nI 20) hx hb dX2_note_33 (by decide) ?_
  refine va_mmin hx hb (by rw [SF.2.2.1]; exact hl.1.symm) hown (hts _ (List.mem_of_getElem? (i := 4) rfl)) (hts _ (List.mem_of_getElem? (i := 5) rfl)) (hts _ (List.mem_of_getElem? (i := 6) rfl)) (hts _ (List.mem_of_getElem? (i := 7) rfl)) (Nat.le_of_ble_eq_true rfl) (Nat.le_of_ble_eq_true rfl) (Nat.zero_le _) (Nat.zero_le _) dX2_note_35 ?_
  refine sp_top (y := nI (min (pz + 1) 20)) (sp_mn hpz) ?_
  refine va_put (D := g.1) (ci := 2) (v := .int (nI (min (pz + 1) 20))) (ty := .int) (C := RX2) (T := TX2) (N := 3) hx hb hts inX2 tyX2 tyX2_ok nmX2 hown hK.1 hP hD hS 0 rfl rfl 2 (by decide) (hts _ (List.mem_of_getElem? (i := 3) rfl)) (fun _ h9 => h9) rfl (by decide +kernel) rfl rfl (Nat.le_of_ble_eq_true rfl) dX2_note_38 (fun H locs hP hD hS => ?_)
  have hP : va_P g.1 vwCl (poW ap ar (nI ((nx + 1) % 20)) (nI (min (pz + 1) 20)) ++ (raW g ar ad ++ (rgW g ad (updU cs nx u1) 20 ++ (twW g b w)))) H := hP
  have hD : va_D A (poW ap ar (nI ((nx + 1) % 20)) (nI (min (pz + 1) 20)) ++ (raW g ar ad ++ (rgW g ad (updU cs nx u1) 20 ++ (twW g b w)))) := hD
  exact hend _ _ _ _ u1 dX2_note_41 (hw1) hP hD hS

set_option maxHeartbeats 4000000 in
set_option maxRecDepth 100000 in
theorem c_X2_takeBack (l : Launch) (g : sp_G) (ap ar : Nat) (ad : Nat → sp_A) (cs : Nat → sp_U) (nx pz : Nat) (hnx : nx < 20) (hpz : pz ≤ 20) (b : sp_A) (w : sp_U) (t : sp_T) (n : Nat) (hn1 : 1 ≤ n) (hn2 : n ≤ pz) (hR : sp_R (cs ((nx + 20 - n) % 20)) t) (hn8 : tn t ≤ 8) : sp_CV l g yX2_takeBack wsX2_takeBack ({ frames := 1, cells := 0, slots := 0, locals := 22 }) [.ref ap, .int (nI n), .ref b.1] (poW ap ar (nI nx) (nI pz) ++ (raW g ar ad ++ (rgW g ad cs 20 ++ (twW g b w)))) (fun v : sp_U => sp_R v t) (fun v => poW ap ar (nI ((nx + 20 - n) % 20)) (nI (pz - n)) ++ (raW g ar ad ++ (rgW g ad cs 20 ++ twW g b v))) := by
  refine sp_CV.of (cc := cX2_takeBack) (maxL := 3) (by decide) rfl (Nat.le_of_ble_eq_true rfl) ?_
  intro p e s m below meth c Q A ls SF hK hP hD hA hl hend
  have hx := SF.1
  have hb := SF.2.1
  have hown : s.vm.findClass RX2 = some m.cls := SF.2.2.2.1
  have hts := SF.2.2.2.2
  have hS : va_S A s.heap s.heap [] := va_S.rf
  have inX2 : ∀ w ∈ wsX20, w ∈ wsX2_takeBack := fun w h => List.mem_cons_of_mem _ (List.mem_append_left _ (List.mem_append_right _ h))
  have inX3 : ∀ w ∈ wsX30, w ∈ wsX2_takeBack := fun w h => List.mem_cons_of_mem _ (List.mem_append_right _ h)
  have hl : lv_has ls 3 [(0, .ref ap), (1, .int (nI n)), (2, .ref b.1)] := hl
  refine lv_iload_n hx hb dX2_takeBack_0 rfl (lv_at hl 1 rfl) ?_
  refine lv_iconst (v := nI 1) hx hb dX2_takeBack_1 (by decide) ?_
  refine lv_icmp_lt (tgt := 13) hx hb dX2_takeBack_2 (by decide) (fun c1 => ?_) (fun c1 => ?_)
  · have c1 := (nI_ltI (by omega) (by omega)).mp c1
    exact absurd c1 (by omega)
  · have c1 := mt (nI_ltI (by omega) (by omega)).mpr c1
    refine lv_iload_n hx hb dX2_takeBack_5 rfl (lv_at hl 1 rfl) ?_
    refine lv_aload_n hx hb dX2_takeBack_6 rfl (lv_at hl 0 rfl) ?_
    refine va_get (D := g.1) (ci := 2) (v := .int (nI pz)) (C := RX2) (T := TX2) (N := 3) hx hb hts inX2 hown hK.1 hP 0 rfl rfl 2 (by decide) (hts _ (List.mem_of_getElem? (i := 1) rfl)) (fun _ h9 => h9) rfl dX2_takeBack_7 ?_
    refine lv_icmp_le (tgt := 14) hx hb dX2_takeBack_10 (by decide) (fun c2 => ?_) (fun c2 => ?_)
    · have c2 := (nI_leI (by omega) (by omega)).mp c2
      refine lv_aload_n hx hb dX2_takeBack_14 rfl (lv_at hl 0 rfl) ?_
      refine lv_aload_n hx hb dX2_takeBack_15 rfl (lv_at hl 0 rfl) ?_
      refine va_get (D := g.1) (ci := 2) (v := .int (nI nx)) (C := RX2) (T := TX2) (N := 3) hx hb hts inX2 hown hK.1 hP 0 rfl rfl 1 (by decide) (hts _ (List.mem_of_getElem? (i := 2) rfl)) (fun _ h9 => h9) rfl dX2_takeBack_16 ?_
      refine lv_bipush (v := nI 20) hx hb dX2_takeBack_19 (by decide) ?_
      refine lv_iadd hx hb dX2_takeBack_21 ?_
      refine sp_top (y := nI (nx + 20)) (nI_add _ _) ?_
      refine lv_iload_n hx hb dX2_takeBack_22 rfl (lv_at hl 1 rfl) ?_
      refine lv_isub hx hb dX2_takeBack_23 ?_
      refine sp_top (y := nI (nx + 20 - n)) (sp_sub (by omega)) ?_
      refine lv_bipush (v := nI 20) hx hb dX2_takeBack_24 (by decide) ?_
      refine lv_irem hx hb dX2_takeBack_26 (sp_ne (by omega) (by omega)) ?_
      refine sp_top (y := nI ((nx + 20 - n) % 20)) (sp_irem (by omega) (by omega) (by omega)) ?_
      refine va_put (D := g.1) (ci := 2) (v := .int (nI ((nx + 20 - n) % 20))) (ty := .int) (C := RX2) (T := TX2) (N := 3) hx hb hts inX2 tyX2 tyX2_ok nmX2 hown hK.1 hP hD hS 0 rfl rfl 1 (by decide) (hts _ (List.mem_of_getElem? (i := 2) rfl)) (fun _ h9 => h9) rfl (by decide +kernel) rfl rfl (Nat.le_of_ble_eq_true rfl) dX2_takeBack_27 (fun H locs hP hD hS => ?_)
      have hP : va_P g.1 vwCl (poW ap ar (nI ((nx + 20 - n) % 20)) (nI pz) ++ (raW g ar ad ++ (rgW g ad cs 20 ++ (twW g b w)))) H := hP
      have hD : va_D A (poW ap ar (nI ((nx + 20 - n) % 20)) (nI pz) ++ (raW g ar ad ++ (rgW g ad cs 20 ++ (twW g b w)))) := hD
      refine lv_aload_n hx hb dX2_takeBack_30 rfl (lv_at hl 0 rfl) ?_
      refine lv_dup hx hb dX2_takeBack_31 rfl ?_
      refine va_get (D := g.1) (ci := 2) (v := .int (nI pz)) (C := RX2) (T := TX2) (N := 3) hx hb hts inX2 hown hK.1 hP 0 rfl rfl 2 (by decide) (hts _ (List.mem_of_getElem? (i := 1) rfl)) (fun _ h9 => h9) rfl dX2_takeBack_32 ?_
      refine lv_iload_n hx hb dX2_takeBack_35 rfl (lv_at hl 1 rfl) ?_
      refine lv_isub hx hb dX2_takeBack_36 ?_
      refine sp_top (y := nI (pz - n)) (sp_sub hn2) ?_
      refine va_put (D := g.1) (ci := 2) (v := .int (nI (pz - n))) (ty := .int) (C := RX2) (T := TX2) (N := 3) hx hb hts inX2 tyX2 tyX2_ok nmX2 hown hK.1 hP hD hS 0 rfl rfl 2 (by decide) (hts _ (List.mem_of_getElem? (i := 1) rfl)) (fun _ h9 => h9) rfl (by decide +kernel) rfl rfl (Nat.le_of_ble_eq_true rfl) dX2_takeBack_37 (fun H locs hP hD hS => ?_)
      have hP : va_P g.1 vwCl (poW ap ar (nI ((nx + 20 - n) % 20)) (nI (pz - n)) ++ (raW g ar ad ++ (rgW g ad cs 20 ++ (twW g b w)))) H := hP
      have hD : va_D A (poW ap ar (nI ((nx + 20 - n) % 20)) (nI (pz - n)) ++ (raW g ar ad ++ (rgW g ad cs 20 ++ (twW g b w)))) := hD
      refine lv_aload_n hx hb dX2_takeBack_40 rfl (lv_at hl 2 rfl) ?_
      refine lv_aload_n hx hb dX2_takeBack_41 rfl (lv_at hl 0 rfl) ?_
      refine va_get (D := g.1) (ci := 2) (v := .ref ar) (C := RX2) (T := TX2) (N := 3) hx hb hts inX2 hown hK.1 hP 0 rfl rfl 0 (by decide) (hts _ (List.mem_of_getElem? (i := 3) rfl)) (fun _ h9 => h9) rfl dX2_takeBack_42 ?_
      have hkk : (nx + 20 - n) % 20 < 20 := Nat.mod_lt _ (by omega)
      refine lv_aload_n hx hb dX2_takeBack_45 rfl (lv_at hl 0 rfl) ?_
      refine va_get (D := g.1) (ci := 2) (v := .int (nI ((nx + 20 - n) % 20))) (C := RX2) (T := TX2) (N := 3) hx hb hts inX2 hown hK.1 hP 0 rfl rfl 1 (by decide) (hts _ (List.mem_of_getElem? (i := 2) rfl)) (fun _ h9 => h9) rfl dX2_takeBack_46 ?_
      refine va_aldq hx hb hK.1 hP 1 4 rfl rfl (vp_in_nI (by omega) (by omega)) dX2_takeBack_49 ?_
      refine sp_topv (w := .ref ((ad ((nx + 20 - n) % 20)).1)) (by rw [sp_c8 (by omega)]; rfl) ?_
      have hP := sp_P_perm (w2 := poW ap ar (nI ((nx + 20 - n) % 20)) (nI (pz - n)) ++ (raW g ar ad ++ (twW g (ad ((nx + 20 - n) % 20)) (cs ((nx + 20 - n) % 20)) ++ (rgX g ad cs ((nx + 20 - n) % 20) 20 ++ (twW g b w))))) ((List.Perm.append_left _ (List.Perm.append_left _ (List.Perm.append_right _ (rg_perm g ad cs ((nx + 20 - n) % 20) 20 (by omega))))).trans (List.Perm.of_eq (by simp only [List.append_assoc]))) hP
      have hD := sp_D_perm (w2 := poW ap ar (nI ((nx + 20 - n) % 20)) (nI (pz - n)) ++ (raW g ar ad ++ (twW g (ad ((nx + 20 - n) % 20)) (cs ((nx + 20 - n) % 20)) ++ (rgX g ad cs ((nx + 20 - n) % 20) 20 ++ (twW g b w))))) ((List.Perm.append_left _ (List.Perm.append_left _ (List.Perm.append_right _ (rg_perm g ad cs ((nx + 20 - n) % 20) 20 (by omega))))).trans (List.Perm.of_eq (by simp only [List.append_assoc]))) hD
      have hP := sp_P_perm (w2 := (twW g b w ++ (twW g (ad ((nx + 20 - n) % 20)) (cs ((nx + 20 - n) % 20)))) ++ (poW ap ar (nI ((nx + 20 - n) % 20)) (nI (pz - n)) ++ (raW g ar ad ++ (rgX g ad cs ((nx + 20 - n) % 20) 20)))) (((List.Perm.append_left _ (List.Perm.append_left _ (List.Perm.append_left _ (List.perm_append_comm)))).trans ((List.Perm.append_left _ (List.Perm.append_left _ (List.perm_append_comm_assoc _ _ _))).trans ((List.Perm.append_left _ (List.perm_append_comm_assoc _ _ _)).trans ((List.perm_append_comm_assoc _ _ _).trans ((List.Perm.append_left _ (List.Perm.append_left _ (List.perm_append_comm_assoc _ _ _))).trans ((List.Perm.append_left _ (List.perm_append_comm_assoc _ _ _)))))))).trans (List.Perm.of_eq (by simp only [List.append_assoc]))) hP
      have hD := sp_D_perm (w2 := (twW g b w ++ (twW g (ad ((nx + 20 - n) % 20)) (cs ((nx + 20 - n) % 20)))) ++ (poW ap ar (nI ((nx + 20 - n) % 20)) (nI (pz - n)) ++ (raW g ar ad ++ (rgX g ad cs ((nx + 20 - n) % 20) 20)))) (((List.Perm.append_left _ (List.Perm.append_left _ (List.Perm.append_left _ (List.perm_append_comm)))).trans ((List.Perm.append_left _ (List.Perm.append_left _ (List.perm_append_comm_assoc _ _ _))).trans ((List.Perm.append_left _ (List.perm_append_comm_assoc _ _ _)).trans ((List.perm_append_comm_assoc _ _ _).trans ((List.Perm.append_left _ (List.Perm.append_left _ (List.perm_append_comm_assoc _ _ _))).trans ((List.Perm.append_left _ (List.perm_append_comm_assoc _ _ _)))))))).trans (List.Perm.of_eq (by simp only [List.append_assoc]))) hD
      refine sp_vv (n := 1) SF hK hA (c_X3_copyFrom l g b (ad ((nx + 20 - n) % 20)) w (cs ((nx + 20 - n) % 20)) t hR hn8) gX2_takeBack_X3_copyFrom rfl rfl rfl (by decide +kernel) rfl ⟨Nat.le_of_ble_eq_true rfl, Nat.le_of_ble_eq_true rfl⟩ 3 0 rfl rfl hP hD hS hl.1 rfl (Nat.le_of_ble_eq_true rfl) dX2_takeBack_50 (fun u1 H locs hw1 hP hD hS => ?_)
      have hP : va_P g.1 vwCl ((twW g b u1 ++ (twW g (ad ((nx + 20 - n) % 20)) (cs ((nx + 20 - n) % 20)))) ++ (poW ap ar (nI ((nx + 20 - n) % 20)) (nI (pz - n)) ++ (raW g ar ad ++ (rgX g ad cs ((nx + 20 - n) % 20) 20)))) H := hP
      have hD : va_D A ((twW g b u1 ++ (twW g (ad ((nx + 20 - n) % 20)) (cs ((nx + 20 - n) % 20)))) ++ (poW ap ar (nI ((nx + 20 - n) % 20)) (nI (pz - n)) ++ (raW g ar ad ++ (rgX g ad cs ((nx + 20 - n) % 20) 20)))) := hD
      have hP := sp_P_perm (w2 := poW ap ar (nI ((nx + 20 - n) % 20)) (nI (pz - n)) ++ (raW g ar ad ++ (twW g (ad ((nx + 20 - n) % 20)) (cs ((nx + 20 - n) % 20)) ++ (rgX g ad cs ((nx + 20 - n) % 20) 20 ++ (twW g b u1))))) ((List.Perm.of_eq (by simp only [List.append_assoc])).trans ((List.Perm.append_left _ (List.perm_append_comm_assoc _ _ _)).trans ((List.perm_append_comm_assoc _ _ _).trans ((List.Perm.append_left _ (List.Perm.append_left _ (List.perm_append_comm_assoc _ _ _))).trans ((List.Perm.append_left _ (List.perm_append_comm_assoc _ _ _)).trans ((List.Perm.append_left _ (List.Perm.append_left _ (List.perm_append_comm_assoc _ _ _))).trans ((List.Perm.append_left _ (List.Perm.append_left _ (List.Perm.append_left _ (List.perm_append_comm))))))))))) hP
      have hD := sp_D_perm (w2 := poW ap ar (nI ((nx + 20 - n) % 20)) (nI (pz - n)) ++ (raW g ar ad ++ (twW g (ad ((nx + 20 - n) % 20)) (cs ((nx + 20 - n) % 20)) ++ (rgX g ad cs ((nx + 20 - n) % 20) 20 ++ (twW g b u1))))) ((List.Perm.of_eq (by simp only [List.append_assoc])).trans ((List.Perm.append_left _ (List.perm_append_comm_assoc _ _ _)).trans ((List.perm_append_comm_assoc _ _ _).trans ((List.Perm.append_left _ (List.Perm.append_left _ (List.perm_append_comm_assoc _ _ _))).trans ((List.Perm.append_left _ (List.perm_append_comm_assoc _ _ _)).trans ((List.Perm.append_left _ (List.Perm.append_left _ (List.perm_append_comm_assoc _ _ _))).trans ((List.Perm.append_left _ (List.Perm.append_left _ (List.Perm.append_left _ (List.perm_append_comm))))))))))) hD
      have hP := sp_P_perm (w2 := poW ap ar (nI ((nx + 20 - n) % 20)) (nI (pz - n)) ++ (raW g ar ad ++ (rgW g ad cs 20 ++ (twW g b u1)))) ((List.Perm.of_eq (by simp only [List.append_assoc])).trans (List.Perm.append_left _ (List.Perm.append_left _ (List.Perm.append_right _ ((rg_perm g ad cs ((nx + 20 - n) % 20) 20 (by omega)).symm))))) hP
      have hD := sp_D_perm (w2 := poW ap ar (nI ((nx + 20 - n) % 20)) (nI (pz - n)) ++ (raW g ar ad ++ (rgW g ad cs 20 ++ (twW g b u1)))) ((List.Perm.of_eq (by simp only [List.append_assoc])).trans (List.Perm.append_left _ (List.Perm.append_left _ (List.Perm.append_right _ ((rg_perm g ad cs ((nx + 20 - n) % 20) 20 (by omega)).symm))))) hD
      exact hend _ _ _ _ u1 dX2_takeBack_53 (hw1) hP hD hS
    · have c2 := mt (nI_leI (by omega) (by omega)).mpr c2
      exact absurd hn2 c2

set_option maxHeartbeats 4000000 in
set_option maxRecDepth 100000 in
theorem c_X2_forget (l : Launch) (g : sp_G) (ap ar : Nat) (nx sz : Int32) : sp_CV l g yX2_forget wsX2_forget ({ frames := 0, cells := 0, slots := 0, locals := 0 }) [.ref ap] (poW ap ar nx sz) (fun _ : Unit => True) (fun _ => poW ap ar nx (nI 0)) := by
  refine sp_CV.of (cc := cX2_forget) (maxL := 1) (by decide) rfl (Nat.le_of_ble_eq_true rfl) ?_
  intro p e s m below meth c Q A ls SF hK hP hD hA hl hend
  have hx := SF.1
  have hb := SF.2.1
  have hown : s.vm.findClass RX2 = some m.cls := SF.2.2.2.1
  have hts := SF.2.2.2.2
  have hS : va_S A s.heap s.heap [] := va_S.rf
  have inX2 : ∀ w ∈ wsX20, w ∈ wsX2_forget := fun w h => List.mem_cons_of_mem _ (List.mem_append_right _ h)
  have hl : lv_has ls 1 [(0, .ref ap)] := hl
  refine lv_aload_n hx hb dX2_forget_0 rfl (lv_at hl 0 rfl) ?_
  refine lv_iconst (v := nI 0) hx hb dX2_forget_1 (by decide) ?_
  refine va_put (D := g.1) (ci := 2) (v := .int (nI 0)) (ty := .int) (C := RX2) (T := TX2) (N := 3) hx hb hts inX2 tyX2 tyX2_ok nmX2 hown hK.1 hP hD hS 0 rfl rfl 2 (by decide) (hts _ (List.mem_of_getElem? (i := 1) rfl)) (fun _ h9 => h9) rfl (by decide +kernel) rfl rfl (Nat.le_of_ble_eq_true rfl) dX2_forget_2 (fun H locs hP hD hS => ?_)
  have hP : va_P g.1 vwCl (poW ap ar nx (nI 0)) H := hP
  have hD : va_D A (poW ap ar nx (nI 0)) := hD
  exact hend _ _ _ _ () dX2_forget_5 (trivial) hP hD hS

set_option maxHeartbeats 4000000 in
set_option maxRecDepth 100000 in
theorem c_X1_take (l : Launch) (g : sp_G) (i : Nat) (a b : sp_A) (u w : sp_U) (s0 k0 sd : Int32) (t : sp_T) (hR : sp_R w t) (hn8 : tn t ≤ 8) : sp_CV l g yX1_take wsX1_take ({ frames := 1, cells := 0, slots := 0, locals := 22 }) [.ref i, .ref b.1, .int sd] (ioW i a.1 s0 k0 ++ (twW g a u ++ (twW g b w))) (fun v : sp_U => sp_R v t) (fun v => ioW i a.1 sd (nI 1) ++ (twW g a v ++ twW g b w)) := by
  refine sp_CV.of (cc := cX1_take) (maxL := 3) (by decide) rfl (Nat.le_of_ble_eq_true rfl) ?_
  intro p e s m below meth c Q A ls SF hK hP hD hA hl hend
  have hx := SF.1
  have hb := SF.2.1
  have hown : s.vm.findClass RX1 = some m.cls := SF.2.2.2.1
  have hts := SF.2.2.2.2
  have hS : va_S A s.heap s.heap [] := va_S.rf
  have inX1 : ∀ w ∈ wsX10, w ∈ wsX1_take := fun w h => List.mem_cons_of_mem _ (List.mem_append_left _ (List.mem_append_right _ h))
  have inX3 : ∀ w ∈ wsX30, w ∈ wsX1_take := fun w h => List.mem_cons_of_mem _ (List.mem_append_right _ h)
  have hl : lv_has ls 3 [(0, .ref i), (1, .ref b.1), (2, .int sd)] := hl
  refine lv_aload_n hx hb dX1_take_0 rfl (lv_at hl 0 rfl) ?_
  refine va_get (D := g.1) (ci := 1) (v := .ref a.1) (C := RX1) (T := TX1) (N := 3) hx hb hts inX1 hown hK.1 hP 0 rfl rfl 0 (by decide) (hts _ (List.mem_of_getElem? (i := 1) rfl)) (fun _ h9 => h9) rfl dX1_take_1 ?_
  refine lv_aload_n hx hb dX1_take_4 rfl (lv_at hl 1 rfl) ?_
  have hP := sp_P_perm (w2 := (twW g a u ++ (twW g b w)) ++ (ioW i a.1 s0 k0)) (((List.perm_append_comm_assoc _ _ _).trans ((List.Perm.append_left _ (List.perm_append_comm)))).trans (List.Perm.of_eq (by simp only [List.append_assoc]))) hP
  have hD := sp_D_perm (w2 := (twW g a u ++ (twW g b w)) ++ (ioW i a.1 s0 k0)) (((List.perm_append_comm_assoc _ _ _).trans ((List.Perm.append_left _ (List.perm_append_comm)))).trans (List.Perm.of_eq (by simp only [List.append_assoc]))) hD
  refine sp_vv (n := 1) SF hK hA (c_X3_copyFrom l g a b u w t hR hn8) gX1_take_X3_copyFrom rfl rfl rfl (by decide +kernel) rfl ⟨Nat.le_of_ble_eq_true rfl, Nat.le_of_ble_eq_true rfl⟩ 3 0 rfl rfl hP hD hS hl.1 rfl (Nat.le_of_ble_eq_true rfl) dX1_take_5 (fun u1 H locs hw1 hP hD hS => ?_)
  have hP : va_P g.1 vwCl ((twW g a u1 ++ (twW g b w)) ++ (ioW i a.1 s0 k0)) H := hP
  have hD : va_D A ((twW g a u1 ++ (twW g b w)) ++ (ioW i a.1 s0 k0)) := hD
  have hP := sp_P_perm (w2 := ioW i a.1 s0 k0 ++ (twW g a u1 ++ (twW g b w))) ((List.Perm.of_eq (by simp only [List.append_assoc])).trans ((List.Perm.append_left _ (List.perm_append_comm)).trans ((List.perm_append_comm_assoc _ _ _)))) hP
  have hD := sp_D_perm (w2 := ioW i a.1 s0 k0 ++ (twW g a u1 ++ (twW g b w))) ((List.Perm.of_eq (by simp only [List.append_assoc])).trans ((List.Perm.append_left _ (List.perm_append_comm)).trans ((List.perm_append_comm_assoc _ _ _)))) hD
  refine lv_aload_n hx hb dX1_take_8 rfl (lv_at hl 0 rfl) ?_
  refine lv_iload_n hx hb dX1_take_9 rfl (lv_at hl 2 rfl) ?_
  refine va_put (D := g.1) (ci := 1) (v := .int sd) (ty := .int) (C := RX1) (T := TX1) (N := 3) hx hb hts inX1 tyX1 tyX1_ok nmX1 hown hK.1 hP hD hS 0 rfl rfl 1 (by decide) (hts _ (List.mem_of_getElem? (i := 2) rfl)) (fun _ h9 => h9) rfl (by decide +kernel) rfl rfl (Nat.le_of_ble_eq_true rfl) dX1_take_10 (fun H locs hP hD hS => ?_)
  have hP : va_P g.1 vwCl (ioW i a.1 sd k0 ++ (twW g a u1 ++ (twW g b w))) H := hP
  have hD : va_D A (ioW i a.1 sd k0 ++ (twW g a u1 ++ (twW g b w))) := hD
  refine lv_aload_n hx hb dX1_take_13 rfl (lv_at hl 0 rfl) ?_
  refine lv_iconst (v := nI 1) hx hb dX1_take_14 (by decide) ?_
  refine va_put (D := g.1) (ci := 1) (v := .int (nI 1)) (ty := .boolean) (C := RX1) (T := TX1) (N := 3) hx hb hts inX1 tyX1 tyX1_ok nmX1 hown hK.1 hP hD hS 0 rfl rfl 2 (by decide) (hts _ (List.mem_of_getElem? (i := 3) rfl)) (fun _ h9 => h9) rfl (by decide +kernel) rfl rfl (Nat.le_of_ble_eq_true rfl) dX1_take_15 (fun H locs hP hD hS => ?_)
  have hP : va_P g.1 vwCl (ioW i a.1 sd (nI 1) ++ (twW g a u1 ++ (twW g b w))) H := hP
  have hD : va_D A (ioW i a.1 sd (nI 1) ++ (twW g a u1 ++ (twW g b w))) := hD
  exact hend _ _ _ _ u1 dX1_take_18 (hw1) hP hD hS

