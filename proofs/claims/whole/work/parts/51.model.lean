set_option maxHeartbeats 4000000 in
set_option maxRecDepth 100000 in
theorem c_X5_drift (l : Launch) (g : sp_G) (a : sp_A9) (v : sp_V) (x : sp_S) (hX : sp_M v x) (B : Nat) (hJ : sp_J x B) (hB : B ≤ 150000) (n0 : Int32) : sp_CI l g yX5_drift wsX5_drift ({ frames := 7, cells := 0, slots := 0, locals := 158 }) [.ref a.1, .int n0] (mdW g a v) (fun r (w : sp_V) => r = (o_drift x n0).1 ∧ sp_M w (o_drift x n0).2) (fun w => mdW g a w) := by
  obtain ⟨t, z⟩ := x
  refine sp_CI.of (cc := cX5_drift) (maxL := 6) (by decide) rfl (Nat.le_of_ble_eq_true rfl) ?_
  intro p e s m below meth c Q A ls SF hK hP hD hA hl hend
  have hx := SF.1
  have hb := SF.2.1
  have hown : s.vm.findClass RX5 = some m.cls := SF.2.2.2.1
  have hts := SF.2.2.2.2
  have hS : va_S A s.heap s.heap [] := va_S.rf
  have inX5 : ∀ w ∈ wsX50, w ∈ wsX5_drift := fun w h => List.mem_cons_of_mem _ (List.mem_append_right _ h)
  have hl : lv_has ls 6 [(0, .ref a.1), (1, .int n0)] := hl
  have hM : sp_Rm v.1 t := hX.now
  have hI : sp_I t := hJ.now
  have hn8 := hI.n
  have hdB : td t ≤ B := hJ.d
  refine lv_iload_n hx hb dX5_drift_0 rfl (lv_at hl 1 rfl) ?_
  refine lv_iconst (v := nI 1) hx hb dX5_drift_1 (by decide) ?_
  refine lv_bipush (v := nI 20) hx hb dX5_drift_2 (by decide) ?_
  refine sp_si (n := 3) (wc := []) (wr := (mdW g a v)) SF hK hA (c_X5_in l g n0 (nI 1) (nI 20)) gX5_drift_X5_in rfl rfl rfl (by decide +kernel) rfl ⟨Nat.le_of_ble_eq_true rfl, Nat.le_of_ble_eq_true rfl⟩ hP hD hS hl.1 rfl (Nat.le_of_ble_eq_true rfl) dX5_drift_4 (fun r9 u9 H locs hbb hP hD hS => ?_)
  obtain ⟨bb, rfl, hbb⟩ := hbb
  have hP : va_P g.1 vwCl (mdW g a v) H := hP
  have hD : va_D A (mdW g a v) := hD
  refine lv_if_ne (tgt := 13) hx hb dX5_drift_7 (by decide) (fun c1 => ?_) (fun c1 => ?_)
  · have c1 := sp_b0n.mp c1
    obtain ⟨n, h1, h2, rfl⟩ := sp_inI_t (by omega) (by omega) (hbb.symm.trans c1)
    refine lv_iconst (v := nI 0) hx hb dX5_drift_13 (by decide) ?_
    refine lv_istore_n (lv' := [(2, .int (nI 0)), (0, .ref a.1), (1, .int (nI n))]) hx hb dX5_drift_14 rfl hl (by decide) rfl (fun ls hl => ?_)
    have hloop15 : ∀ (n15 : Nat) (k : Nat) (w : sp_V) (y : sp_S) (H : Heap) (locs : List Loc) (ls : Array Slot), (k ≤ n) → (sp_M w y) → (sp_J y (B + 9 * k)) → (lp sp_d1 (n - k) k y = lp sp_d1 n 0 (t, z)) → n - k < n15 → va_P g.1 vwCl (mdW g a w) H → va_D A (mdW g a w) → va_S A s.heap H locs → lv_has ls 6 [(0, .ref a.1), (1, .int (nI n)), (2, .int (nI k))] → W p l e ({ frames := 7, cells := 0, slots := 0, locals := 158 }) s m ([.ref a.1, .int (nI n)] : List Value).toArray below meth c H locs 0 0 Q (F0 m 15 ls []) := by
      intro n15
      induction n15 with
      | zero =>
        intro k w y H locs ls hk hXy hJy hh h9
        exact absurd h9 (Nat.not_lt_zero _)
      | succ n15 ih15 =>
        intro k w y H locs ls hk hXy hJy hh hm15 hP hD hS hl
        obtain ⟨t, z⟩ := y
        have hM : sp_Rm w.1 t := hXy.now
        have hI : sp_I t := hJy.now
        have hn8 := hI.n
        have hd2 : td t ≤ B + 9 * k := hJy.d
        have hsd := hJy.sd
        obtain ⟨s1, e1⟩ : ∃ s, sp_nx (s_sd (t, z)) = s := ⟨_, rfl⟩
        have b1 : s1 < 2 ^ 31 := e1 ▸ sp_nx_lt _
        obtain ⟨s2, e2⟩ : ∃ s, sp_nx s1 = s := ⟨_, rfl⟩
        have b2 : s2 < 2 ^ 31 := e2 ▸ sp_nx_lt _
        obtain ⟨s3, e3⟩ : ∃ s, sp_nx s2 = s := ⟨_, rfl⟩
        have b3 : s3 < 2 ^ 31 := e3 ▸ sp_nx_lt _
        obtain ⟨wq, ew⟩ : ∃ q, s1 / 65536 % 5 = q := ⟨_, rfl⟩
        have lw : wq < 5 := ew ▸ Nat.mod_lt _ (by omega)
        obtain ⟨iq, ei⟩ : ∃ q, s2 / 65536 % 8 = q := ⟨_, rfl⟩
        have li : iq < 8 := ei ▸ Nat.mod_lt _ (by omega)
        obtain ⟨mq, em⟩ : ∃ q, s3 / 65536 % 10 = q := ⟨_, rfl⟩
        have lm : mq < 10 := em ▸ Nat.mod_lt _ (by omega)
        refine lv_iload_n hx hb dX5_drift_15 rfl (lv_at hl 2 rfl) ?_
        refine lv_iload_n hx hb dX5_drift_16 rfl (lv_at hl 1 rfl) ?_
        refine lv_icmp_ge (tgt := 135) hx hb dX5_drift_17 (by decide) (fun c2 => ?_) (fun c2 => ?_)
        · have c2 := (nI_leI (by omega) (by omega)).mp c2
          refine lv_aload_n hx hb dX5_drift_135 rfl (lv_at hl 0 rfl) ?_
          refine va_get (D := g.1) (ci := 5) (v := .ref a.2.1) (C := RX5) (T := TX5) (N := 11) hx hb hts inX5 hown hK.1 hP 0 rfl rfl 0 (by decide) (hts _ (List.mem_of_getElem? (i := 2) rfl)) (fun _ h9 => h9) rfl dX5_drift_136 ?_
          refine lv_iconst (v := nI 1) hx hb dX5_drift_139 (by decide) ?_
          refine va_iald hx hb hK.1 hP 1 0 rfl rfl (vp_in_nI (by omega) (by omega)) dX5_drift_140 ?_
          refine sp_top (y := w.1 1) (congrArg w.1 (sp_c8 (k := 1) (by omega))) ?_
          refine sp_top (y := nI (tn t)) (hM.n) ?_
          exact hend _ _ _ _ _ w dX5_drift_141 (sp_an (o_drift_y h1 h2 (by rw [← hh, lp_end _ (by omega)])) hXy) hP hD hS
        · have c2 := mt (nI_leI (by omega) (by omega)).mpr c2
          refine lv_aload_n hx hb dX5_drift_20 rfl (lv_at hl 0 rfl) ?_
          refine sp_vv0 (n := 0) SF hK hA (c_X5_notes l g a w (t, z) hXy (B + 9 * k) hJy (by omega)) gX5_drift_X5_notes rfl rfl rfl (by decide +kernel) rfl ⟨Nat.le_of_ble_eq_true rfl, Nat.le_of_ble_eq_true rfl⟩ 5 0 rfl rfl hP hD hS hl.1 rfl (Nat.le_of_ble_eq_true rfl) dX5_drift_21 (fun y1 H locs hy1 hP hD hS => ?_)
          have hP : va_P g.1 vwCl (mdW g a (w.1, w.2.1, y1.1, y1.2, w.2.2.2.2.1, w.2.2.2.2.2.1, w.2.2.2.2.2.2.1, w.2.2.2.2.2.2.2.1, w.2.2.2.2.2.2.2.2.1, w.2.2.2.2.2.2.2.2.2.1, w.2.2.2.2.2.2.2.2.2.2)) H := hP
          have hD : va_D A (mdW g a (w.1, w.2.1, y1.1, y1.2, w.2.2.2.2.1, w.2.2.2.2.2.1, w.2.2.2.2.2.2.1, w.2.2.2.2.2.2.2.1, w.2.2.2.2.2.2.2.2.1, w.2.2.2.2.2.2.2.2.2.1, w.2.2.2.2.2.2.2.2.2.2)) := hD
          refine lv_aload_n hx hb dX5_drift_24 rfl (lv_at hl 0 rfl) ?_
          refine lv_iconst (v := nI 5) hx hb dX5_drift_25 (by decide) ?_
          refine sp_vi0 (n := 1) SF hK hA (c_X5_drawOf l g a (w.1, w.2.1, y1.1, y1.2, w.2.2.2.2.1, w.2.2.2.2.2.1, w.2.2.2.2.2.2.1, w.2.2.2.2.2.2.2.1, w.2.2.2.2.2.2.2.2.1, w.2.2.2.2.2.2.2.2.2.1, w.2.2.2.2.2.2.2.2.2.2) (s_sd (t, z)) s1 hsd e1 b1 hXy.see 5 (by omega) (by omega)) gX5_drift_X5_drawOf rfl rfl rfl (by decide +kernel) rfl ⟨Nat.le_of_ble_eq_true rfl, Nat.le_of_ble_eq_true rfl⟩ 5 0 rfl rfl hP hD hS hl.1 rfl (Nat.le_of_ble_eq_true rfl) dX5_drift_26 (fun r9 u9 H locs w1 hP hD hS => ?_)
          subst w1
          refine sp_top (y := nI wq) (congrArg nI ew) ?_
          have hP : va_P g.1 vwCl (mdW g a (w.1, w.2.1, y1.1, y1.2, w.2.2.2.2.1, w.2.2.2.2.2.1, w.2.2.2.2.2.2.1, lN s1, w.2.2.2.2.2.2.2.2.1, w.2.2.2.2.2.2.2.2.2.1, w.2.2.2.2.2.2.2.2.2.2)) H := hP
          have hD : va_D A (mdW g a (w.1, w.2.1, y1.1, y1.2, w.2.2.2.2.1, w.2.2.2.2.2.1, w.2.2.2.2.2.2.1, lN s1, w.2.2.2.2.2.2.2.2.1, w.2.2.2.2.2.2.2.2.2.1, w.2.2.2.2.2.2.2.2.2.2)) := hD
          refine lv_istore_n (lv' := [(3, .int (nI wq)), (0, .ref a.1), (1, .int (nI n)), (2, .int (nI k))]) hx hb dX5_drift_29 rfl hl (by decide) rfl (fun ls hl => ?_)
          refine lv_aload_n hx hb dX5_drift_30 rfl (lv_at hl 1 rfl) ?_
          refine lv_bipush (v := nI 8) hx hb dX5_drift_31 (by decide) ?_
          refine sp_vi0 (n := 1) SF hK hA (c_X5_drawOf l g a (w.1, w.2.1, y1.1, y1.2, w.2.2.2.2.1, w.2.2.2.2.2.1, w.2.2.2.2.2.2.1, lN s1, w.2.2.2.2.2.2.2.2.1, w.2.2.2.2.2.2.2.2.2.1, w.2.2.2.2.2.2.2.2.2.2) s1 s2 b1 e2 b2 rfl 8 (by omega) (by omega)) gX5_drift_X5_drawOf rfl rfl rfl (by decide +kernel) rfl ⟨Nat.le_of_ble_eq_true rfl, Nat.le_of_ble_eq_true rfl⟩ 5 0 rfl rfl hP hD hS hl.1 rfl (Nat.le_of_ble_eq_true rfl) dX5_drift_33 (fun r9 u9 H locs w2 hP hD hS => ?_)
          subst w2
          refine sp_top (y := nI iq) (congrArg nI ei) ?_
          have hP : va_P g.1 vwCl (mdW g a (w.1, w.2.1, y1.1, y1.2, w.2.2.2.2.1, w.2.2.2.2.2.1, w.2.2.2.2.2.2.1, lN s2, w.2.2.2.2.2.2.2.2.1, w.2.2.2.2.2.2.2.2.2.1, w.2.2.2.2.2.2.2.2.2.2)) H := hP
          have hD : va_D A (mdW g a (w.1, w.2.1, y1.1, y1.2, w.2.2.2.2.1, w.2.2.2.2.2.1, w.2.2.2.2.2.2.1, lN s2, w.2.2.2.2.2.2.2.2.1, w.2.2.2.2.2.2.2.2.2.1, w.2.2.2.2.2.2.2.2.2.2)) := hD
          refine lv_istore (lv' := [(4, .int (nI iq)), (3, .int (nI wq)), (0, .ref a.1), (1, .int (nI n)), (2, .int (nI k))]) hx hb dX5_drift_36 hl (by decide) rfl (fun ls hl => ?_)
          refine lv_aload_n hx hb dX5_drift_38 rfl (lv_at hl 2 rfl) ?_
          refine lv_bipush (v := nI 10) hx hb dX5_drift_39 (by decide) ?_
          refine sp_vi0 (n := 1) SF hK hA (c_X5_drawOf l g a (w.1, w.2.1, y1.1, y1.2, w.2.2.2.2.1, w.2.2.2.2.2.1, w.2.2.2.2.2.2.1, lN s2, w.2.2.2.2.2.2.2.2.1, w.2.2.2.2.2.2.2.2.2.1, w.2.2.2.2.2.2.2.2.2.2) s2 s3 b2 e3 b3 rfl 10 (by omega) (by omega)) gX5_drift_X5_drawOf rfl rfl rfl (by decide +kernel) rfl ⟨Nat.le_of_ble_eq_true rfl, Nat.le_of_ble_eq_true rfl⟩ 5 0 rfl rfl hP hD hS hl.1 rfl (Nat.le_of_ble_eq_true rfl) dX5_drift_41 (fun r9 u9 H locs w3 hP hD hS => ?_)
          subst w3
          refine sp_top (y := nI mq) (congrArg nI em) ?_
          have hP : va_P g.1 vwCl (mdW g a (w.1, w.2.1, y1.1, y1.2, w.2.2.2.2.1, w.2.2.2.2.2.1, w.2.2.2.2.2.2.1, lN s3, w.2.2.2.2.2.2.2.2.1, w.2.2.2.2.2.2.2.2.2.1, w.2.2.2.2.2.2.2.2.2.2)) H := hP
          have hD : va_D A (mdW g a (w.1, w.2.1, y1.1, y1.2, w.2.2.2.2.1, w.2.2.2.2.2.1, w.2.2.2.2.2.2.1, lN s3, w.2.2.2.2.2.2.2.2.1, w.2.2.2.2.2.2.2.2.2.1, w.2.2.2.2.2.2.2.2.2.2)) := hD
          refine lv_istore (lv' := [(5, .int (nI mq)), (4, .int (nI iq)), (3, .int (nI wq)), (0, .ref a.1), (1, .int (nI n)), (2, .int (nI k))]) hx hb dX5_drift_44 hl (by decide) rfl (fun ls hl => ?_)
          refine lv_iload_n hx hb dX5_drift_46 rfl (lv_at hl 2 rfl) ?_
          refine lv_iconst (v := nI 2) hx hb dX5_drift_47 (by decide) ?_
          refine lv_icmp_ge (tgt := 65) hx hb dX5_drift_48 (by decide) (fun c48 => ?_) (fun c48 => ?_)
          · have c48 := (nI_leI (by omega) (by omega)).mp c48
            refine lv_iload_n hx hb dX5_drift_65 rfl (lv_at hl 2 rfl) ?_
            refine lv_iconst (v := nI 2) hx hb dX5_drift_66 (by decide) ?_
            refine lv_icmp_ne (tgt := 84) hx hb dX5_drift_67 (by decide) (fun c67 => ?_) (fun c67 => ?_)
            · have c67 := mt (nI_eq (by omega) (by omega)).mpr c67
              refine lv_iload_n hx hb dX5_drift_84 rfl (lv_at hl 2 rfl) ?_
              refine lv_iconst (v := nI 3) hx hb dX5_drift_85 (by decide) ?_
              refine lv_icmp_ne (tgt := 107) hx hb dX5_drift_86 (by decide) (fun c86 => ?_) (fun c86 => ?_)
              · have c86 := mt (nI_eq (by omega) (by omega)).mpr c86
                refine lv_iload_n hx hb dX5_drift_107 rfl (lv_at hl 2 rfl) ?_
                refine lv_iconst (v := nI 4) hx hb dX5_drift_108 (by decide) ?_
                refine lv_icmp_ne (tgt := 129) hx hb dX5_drift_109 (by decide) (fun c109 => ?_) (fun c109 => ?_)
                · have c109 := mt (nI_eq (by omega) (by omega)).mpr c109
                  exact absurd c109 (by omega)
                · have c109 := (nI_eq (by omega) (by omega)).mp c109
                  refine lv_aload_n hx hb dX5_drift_112 rfl (lv_at hl 3 rfl) ?_
                  refine lv_iload hx hb dX5_drift_113 (lv_at hl 1 rfl) ?_
                  refine sp_vi0 (n := 1) SF hK hA (c_X5_isFloor l g a (w.1, w.2.1, y1.1, y1.2, w.2.2.2.2.1, w.2.2.2.2.2.1, w.2.2.2.2.2.2.1, lN s3, w.2.2.2.2.2.2.2.2.1, w.2.2.2.2.2.2.2.2.2.1, w.2.2.2.2.2.2.2.2.2.2) t hM hI (nI iq)) gX5_drift_X5_isFloor rfl rfl rfl (by decide +kernel) rfl ⟨Nat.le_of_ble_eq_true rfl, Nat.le_of_ble_eq_true rfl⟩ 5 0 rfl rfl hP hD hS hl.1 rfl (Nat.le_of_ble_eq_true rfl) dX5_drift_115 (fun r9 u9 H locs hbp hP hD hS => ?_)
                  obtain ⟨bp, rfl, hbp⟩ := hbp
                  have hP : va_P g.1 vwCl (mdW g a (w.1, w.2.1, y1.1, y1.2, w.2.2.2.2.1, w.2.2.2.2.2.1, w.2.2.2.2.2.2.1, lN s3, w.2.2.2.2.2.2.2.2.1, w.2.2.2.2.2.2.2.2.2.1, w.2.2.2.2.2.2.2.2.2.2)) H := hP
                  have hD : va_D A (mdW g a (w.1, w.2.1, y1.1, y1.2, w.2.2.2.2.1, w.2.2.2.2.2.1, w.2.2.2.2.2.2.1, lN s3, w.2.2.2.2.2.2.2.2.1, w.2.2.2.2.2.2.2.2.2.1, w.2.2.2.2.2.2.2.2.2.2)) := hD
                  refine lv_if_eq (tgt := 129) hx hb dX5_drift_118 (by decide) (fun c118 => ?_) (fun c118 => ?_)
                  · have c118 := sp_b0.mp c118
                    have HD := sp_d1_eq (k := k) (x := (t, z)) e1 e2 e3 ew ei em (T := t) (sp_dr_G c109 (sp_has_jn hn8 (hbp.symm.trans c118)))
                    have HR : sp_Rm w.1 t := hM
                    have HX := sp_M_sets (sp_M_set hy1 (as := w.2.1) (pt := w.2.2.2.2.2.2.2.2.2.2) HR) s3
                    refine lv_iinc (v := nI (k + 1)) (lv' := [(2, .int (nI (k + 1))), (5, .int (nI mq)), (4, .int (nI iq)), (3, .int (nI wq)), (0, .ref a.1), (1, .int (nI n))]) hx hb dX5_drift_129 hl (k := 5) rfl (nI_1 k) (by decide) rfl (fun ls hl => ?_)
                    refine lv_goto (tgt := 15) hx hb dX5_drift_132 (by decide) ?_
                    exact ih15 (k + 1) (w.1, w.2.1, y1.1, y1.2, w.2.2.2.2.1, w.2.2.2.2.2.1, w.2.2.2.2.2.2.1, lN s3, w.2.2.2.2.2.2.2.2.1, w.2.2.2.2.2.2.2.2.2.1, w.2.2.2.2.2.2.2.2.2.2) (sp_sets (sp_setn (sp_note (t, z)) t) s3) _ _ _ (by omega) (HX) (by rw [← HD]; exact sp_J_mono (sp_J_d1 hJy (by omega) k) (by omega)) (by rw [← hh, lp_step sp_d1 (show k < n by omega), HD]) (by omega) hP hD hS (lv_sub hl [4, 5, 0] rfl)
                  · have c118 := sp_b0n.mp c118
                    have hjq := sp_has_j hn8 li (hbp.symm.trans c118)
                    refine lv_aload_n hx hb dX5_drift_121 rfl (lv_at hl 3 rfl) ?_
                    refine lv_iload hx hb dX5_drift_122 (lv_at hl 1 rfl) ?_
                    refine lv_iconst (v := nI 3) hx hb dX5_drift_124 (by decide) ?_
                    refine lv_iconst (v := nI 1) hx hb dX5_drift_125 (by decide) ?_
                    refine sp_vv0 (n := 3) SF hK hA (c_X5_put l g a (w.1, w.2.1, y1.1, y1.2, w.2.2.2.2.1, w.2.2.2.2.2.1, w.2.2.2.2.2.2.1, lN s3, w.2.2.2.2.2.2.2.2.1, w.2.2.2.2.2.2.2.2.2.1, w.2.2.2.2.2.2.2.2.2.2) iq 3 (by omega) (by omega) (nI 1)) gX5_drift_X5_put rfl rfl rfl (by decide +kernel) rfl ⟨Nat.le_of_ble_eq_true rfl, Nat.le_of_ble_eq_true rfl⟩ 5 0 rfl rfl hP hD hS hl.1 rfl (Nat.le_of_ble_eq_true rfl) dX5_drift_126 (fun u9 H locs w4 hP hD hS => ?_)
                    have hP : va_P g.1 vwCl (mdW g a ((upd w.1 (6 + 4 * iq + 3) (nI 1)), w.2.1, y1.1, y1.2, w.2.2.2.2.1, w.2.2.2.2.2.1, w.2.2.2.2.2.2.1, lN s3, w.2.2.2.2.2.2.2.2.1, w.2.2.2.2.2.2.2.2.2.1, w.2.2.2.2.2.2.2.2.2.2)) H := hP
                    have hD : va_D A (mdW g a ((upd w.1 (6 + 4 * iq + 3) (nI 1)), w.2.1, y1.1, y1.2, w.2.2.2.2.1, w.2.2.2.2.2.1, w.2.2.2.2.2.2.1, lN s3, w.2.2.2.2.2.2.2.2.1, w.2.2.2.2.2.2.2.2.2.1, w.2.2.2.2.2.2.2.2.2.2)) := hD
                    have HD := sp_d1_eq (k := k) (x := (t, z)) e1 e2 e3 ew ei em (T := sp_on t iq) (sp_dr_F c109 hjq)
                    have HR : sp_Rm (upd w.1 (6 + 4 * iq + 3) (nI 1)) (sp_on t iq) := sp_Rm_on hM iq
                    have HX := sp_M_sets (sp_M_set hy1 (as := w.2.1) (pt := w.2.2.2.2.2.2.2.2.2.2) HR) s3
                    refine lv_iinc (v := nI (k + 1)) (lv' := [(2, .int (nI (k + 1))), (5, .int (nI mq)), (4, .int (nI iq)), (3, .int (nI wq)), (0, .ref a.1), (1, .int (nI n))]) hx hb dX5_drift_129 hl (k := 5) rfl (nI_1 k) (by decide) rfl (fun ls hl => ?_)
                    refine lv_goto (tgt := 15) hx hb dX5_drift_132 (by decide) ?_
                    exact ih15 (k + 1) ((upd w.1 (6 + 4 * iq + 3) (nI 1)), w.2.1, y1.1, y1.2, w.2.2.2.2.1, w.2.2.2.2.2.1, w.2.2.2.2.2.2.1, lN s3, w.2.2.2.2.2.2.2.2.1, w.2.2.2.2.2.2.2.2.2.1, w.2.2.2.2.2.2.2.2.2.2) (sp_sets (sp_setn (sp_note (t, z)) (sp_on t iq)) s3) _ _ _ (by omega) (HX) (by rw [← HD]; exact sp_J_mono (sp_J_d1 hJy (by omega) k) (by omega)) (by rw [← hh, lp_step sp_d1 (show k < n by omega), HD]) (by omega) hP hD hS (lv_sub hl [4, 5, 0] rfl)
              · have c86 := (nI_eq (by omega) (by omega)).mp c86
                refine lv_aload_n hx hb dX5_drift_89 rfl (lv_at hl 3 rfl) ?_
                refine lv_iload hx hb dX5_drift_90 (lv_at hl 1 rfl) ?_
                refine sp_vi0 (n := 1) SF hK hA (c_X5_mayStrike l g a (w.1, w.2.1, y1.1, y1.2, w.2.2.2.2.1, w.2.2.2.2.2.1, w.2.2.2.2.2.2.1, lN s3, w.2.2.2.2.2.2.2.2.1, w.2.2.2.2.2.2.2.2.2.1, w.2.2.2.2.2.2.2.2.2.2) t hM hI (nI iq)) gX5_drift_X5_mayStrike rfl rfl rfl (by decide +kernel) rfl ⟨Nat.le_of_ble_eq_true rfl, Nat.le_of_ble_eq_true rfl⟩ 5 0 rfl rfl hP hD hS hl.1 rfl (Nat.le_of_ble_eq_true rfl) dX5_drift_92 (fun r9 x1 H locs hw1 hP hD hS => ?_)
                obtain ⟨bp, rfl, hw1⟩ := hw1
                have hP : va_P g.1 vwCl (mdW g a (x1.1, x1.2.1, y1.1, y1.2, w.2.2.2.2.1, w.2.2.2.2.2.1, w.2.2.2.2.2.2.1, lN s3, w.2.2.2.2.2.2.2.2.1, w.2.2.2.2.2.2.2.2.2.1, x1.2.2)) H := hP
                have hD : va_D A (mdW g a (x1.1, x1.2.1, y1.1, y1.2, w.2.2.2.2.1, w.2.2.2.2.2.1, w.2.2.2.2.2.2.1, lN s3, w.2.2.2.2.2.2.2.2.1, w.2.2.2.2.2.2.2.2.2.1, x1.2.2)) := hD
                have hM2 := sp_Rm_ext hM hn8 hw1.2
                refine lv_if_eq (tgt := 107) hx hb dX5_drift_95 (by decide) (fun c95 => ?_) (fun c95 => ?_)
                · have c95 := sp_b0.mp c95
                  refine lv_iload_n hx hb dX5_drift_107 rfl (lv_at hl 2 rfl) ?_
                  refine lv_iconst (v := nI 4) hx hb dX5_drift_108 (by decide) ?_
                  refine lv_icmp_ne (tgt := 129) hx hb dX5_drift_109 (by decide) (fun c109 => ?_) (fun c109 => ?_)
                  · have c109 := mt (nI_eq (by omega) (by omega)).mpr c109
                    have HD := sp_d1_eq (k := k) (x := (t, z)) e1 e2 e3 ew ei em (T := t) (sp_dr_E c86 (hw1.1.symm.trans c95))
                    have HR : sp_Rm x1.1 t := hM2
                    have HX := sp_M_sets (sp_M_set hy1 (as := x1.2.1) (pt := x1.2.2) HR) s3
                    refine lv_iinc (v := nI (k + 1)) (lv' := [(2, .int (nI (k + 1))), (5, .int (nI mq)), (4, .int (nI iq)), (3, .int (nI wq)), (0, .ref a.1), (1, .int (nI n))]) hx hb dX5_drift_129 hl (k := 5) rfl (nI_1 k) (by decide) rfl (fun ls hl => ?_)
                    refine lv_goto (tgt := 15) hx hb dX5_drift_132 (by decide) ?_
                    exact ih15 (k + 1) (x1.1, x1.2.1, y1.1, y1.2, w.2.2.2.2.1, w.2.2.2.2.2.1, w.2.2.2.2.2.2.1, lN s3, w.2.2.2.2.2.2.2.2.1, w.2.2.2.2.2.2.2.2.2.1, x1.2.2) (sp_sets (sp_setn (sp_note (t, z)) t) s3) _ _ _ (by omega) (HX) (by rw [← HD]; exact sp_J_mono (sp_J_d1 hJy (by omega) k) (by omega)) (by rw [← hh, lp_step sp_d1 (show k < n by omega), HD]) (by omega) hP hD hS (lv_sub hl [4, 5, 0] rfl)
                  · have c109 := (nI_eq (by omega) (by omega)).mp c109
                    exact absurd c109 (by omega)
                · have c95 := sp_b0n.mp c95
                  have hjq := sp_msx_j hn8 li (hw1.1.symm.trans c95)
                  refine lv_aload_n hx hb dX5_drift_98 rfl (lv_at hl 3 rfl) ?_
                  refine lv_iload hx hb dX5_drift_99 (lv_at hl 1 rfl) ?_
                  refine sp_vv0 (n := 1) SF hK hA (c_X5_strikes l g a (x1.1, x1.2.1, y1.1, y1.2, w.2.2.2.2.1, w.2.2.2.2.2.1, w.2.2.2.2.2.2.1, lN s3, w.2.2.2.2.2.2.2.2.1, w.2.2.2.2.2.2.2.2.2.1, x1.2.2) t hM2 hI iq hjq) gX5_drift_X5_strikes rfl rfl rfl (by decide +kernel) rfl ⟨Nat.le_of_ble_eq_true rfl, Nat.le_of_ble_eq_true rfl⟩ 5 0 rfl rfl hP hD hS hl.1 rfl (Nat.le_of_ble_eq_true rfl) dX5_drift_101 (fun x2 H locs hs2 hP hD hS => ?_)
                  have hP : va_P g.1 vwCl (mdW g a (x2.1, x1.2.1, y1.1, y1.2, w.2.2.2.2.1, w.2.2.2.2.2.1, w.2.2.2.2.2.2.1, lN s3, w.2.2.2.2.2.2.2.2.1, w.2.2.2.2.2.2.2.2.2.1, x2.2)) H := hP
                  have hD : va_D A (mdW g a (x2.1, x1.2.1, y1.1, y1.2, w.2.2.2.2.1, w.2.2.2.2.2.1, w.2.2.2.2.2.2.1, lN s3, w.2.2.2.2.2.2.2.2.1, w.2.2.2.2.2.2.2.2.2.1, x2.2)) := hD
                  refine lv_goto (tgt := 129) hx hb dX5_drift_104 (by decide) ?_
                  have HD := sp_d1_eq (k := k) (x := (t, z)) e1 e2 e3 ew ei em (T := sp_stk t iq) (sp_dr_D c86 (hw1.1.symm.trans c95))
                  have HR : sp_Rm x2.1 (sp_stk t iq) := hs2
                  have HX := sp_M_sets (sp_M_set hy1 (as := x1.2.1) (pt := x2.2) HR) s3
                  refine lv_iinc (v := nI (k + 1)) (lv' := [(2, .int (nI (k + 1))), (5, .int (nI mq)), (4, .int (nI iq)), (3, .int (nI wq)), (0, .ref a.1), (1, .int (nI n))]) hx hb dX5_drift_129 hl (k := 5) rfl (nI_1 k) (by decide) rfl (fun ls hl => ?_)
                  refine lv_goto (tgt := 15) hx hb dX5_drift_132 (by decide) ?_
                  exact ih15 (k + 1) (x2.1, x1.2.1, y1.1, y1.2, w.2.2.2.2.1, w.2.2.2.2.2.1, w.2.2.2.2.2.2.1, lN s3, w.2.2.2.2.2.2.2.2.1, w.2.2.2.2.2.2.2.2.2.1, x2.2) (sp_sets (sp_setn (sp_note (t, z)) (sp_stk t iq)) s3) _ _ _ (by omega) (HX) (by rw [← HD]; exact sp_J_mono (sp_J_d1 hJy (by omega) k) (by omega)) (by rw [← hh, lp_step sp_d1 (show k < n by omega), HD]) (by omega) hP hD hS (lv_sub hl [4, 5, 0] rfl)
            · have c67 := (nI_eq (by omega) (by omega)).mp c67
              refine lv_aload_n hx hb dX5_drift_70 rfl (lv_at hl 3 rfl) ?_
              refine sp_vi0 (n := 0) SF hK hA (c_X5_mayPour l g a (w.1, w.2.1, y1.1, y1.2, w.2.2.2.2.1, w.2.2.2.2.2.1, w.2.2.2.2.2.2.1, lN s3, w.2.2.2.2.2.2.2.2.1, w.2.2.2.2.2.2.2.2.2.1, w.2.2.2.2.2.2.2.2.2.2) t hM hI) gX5_drift_X5_mayPour rfl rfl rfl (by decide +kernel) rfl ⟨Nat.le_of_ble_eq_true rfl, Nat.le_of_ble_eq_true rfl⟩ 5 0 rfl rfl hP hD hS hl.1 rfl (Nat.le_of_ble_eq_true rfl) dX5_drift_71 (fun r9 x1 H locs hw1 hP hD hS => ?_)
              obtain ⟨bp, rfl, hw1⟩ := hw1
              have hP : va_P g.1 vwCl (mdW g a (x1.1, x1.2.1, y1.1, y1.2, w.2.2.2.2.1, w.2.2.2.2.2.1, w.2.2.2.2.2.2.1, lN s3, w.2.2.2.2.2.2.2.2.1, w.2.2.2.2.2.2.2.2.2.1, x1.2.2)) H := hP
              have hD : va_D A (mdW g a (x1.1, x1.2.1, y1.1, y1.2, w.2.2.2.2.1, w.2.2.2.2.2.1, w.2.2.2.2.2.2.1, lN s3, w.2.2.2.2.2.2.2.2.1, w.2.2.2.2.2.2.2.2.2.1, x1.2.2)) := hD
              have hM2 := sp_Rm_ext hM hn8 hw1.2
              refine lv_if_eq (tgt := 84) hx hb dX5_drift_74 (by decide) (fun c74 => ?_) (fun c74 => ?_)
              · have c74 := sp_b0.mp c74
                refine lv_iload_n hx hb dX5_drift_84 rfl (lv_at hl 2 rfl) ?_
                refine lv_iconst (v := nI 3) hx hb dX5_drift_85 (by decide) ?_
                refine lv_icmp_ne (tgt := 107) hx hb dX5_drift_86 (by decide) (fun c86 => ?_) (fun c86 => ?_)
                · have c86 := mt (nI_eq (by omega) (by omega)).mpr c86
                  refine lv_iload_n hx hb dX5_drift_107 rfl (lv_at hl 2 rfl) ?_
                  refine lv_iconst (v := nI 4) hx hb dX5_drift_108 (by decide) ?_
                  refine lv_icmp_ne (tgt := 129) hx hb dX5_drift_109 (by decide) (fun c109 => ?_) (fun c109 => ?_)
                  · have c109 := mt (nI_eq (by omega) (by omega)).mpr c109
                    have HD := sp_d1_eq (k := k) (x := (t, z)) e1 e2 e3 ew ei em (T := t) (sp_dr_C c67 (hw1.1.symm.trans c74))
                    have HR : sp_Rm x1.1 t := hM2
                    have HX := sp_M_sets (sp_M_set hy1 (as := x1.2.1) (pt := x1.2.2) HR) s3
                    refine lv_iinc (v := nI (k + 1)) (lv' := [(2, .int (nI (k + 1))), (5, .int (nI mq)), (4, .int (nI iq)), (3, .int (nI wq)), (0, .ref a.1), (1, .int (nI n))]) hx hb dX5_drift_129 hl (k := 5) rfl (nI_1 k) (by decide) rfl (fun ls hl => ?_)
                    refine lv_goto (tgt := 15) hx hb dX5_drift_132 (by decide) ?_
                    exact ih15 (k + 1) (x1.1, x1.2.1, y1.1, y1.2, w.2.2.2.2.1, w.2.2.2.2.2.1, w.2.2.2.2.2.2.1, lN s3, w.2.2.2.2.2.2.2.2.1, w.2.2.2.2.2.2.2.2.2.1, x1.2.2) (sp_sets (sp_setn (sp_note (t, z)) t) s3) _ _ _ (by omega) (HX) (by rw [← HD]; exact sp_J_mono (sp_J_d1 hJy (by omega) k) (by omega)) (by rw [← hh, lp_step sp_d1 (show k < n by omega), HD]) (by omega) hP hD hS (lv_sub hl [4, 5, 0] rfl)
                  · have c109 := (nI_eq (by omega) (by omega)).mp c109
                    exact absurd c109 (by omega)
                · have c86 := (nI_eq (by omega) (by omega)).mp c86
                  exact absurd c86 (by omega)
              · have c74 := sp_b0n.mp c74
                refine lv_aload_n hx hb dX5_drift_77 rfl (lv_at hl 3 rfl) ?_
                refine sp_vv0 (n := 0) SF hK hA (c_X5_pours l g a (x1.1, x1.2.1, y1.1, y1.2, w.2.2.2.2.1, w.2.2.2.2.2.1, w.2.2.2.2.2.2.1, lN s3, w.2.2.2.2.2.2.2.2.1, w.2.2.2.2.2.2.2.2.2.1, x1.2.2) t hM2 hI (sp_mp_8 (hw1.1.symm.trans c74))) gX5_drift_X5_pours rfl rfl rfl (by decide +kernel) rfl ⟨Nat.le_of_ble_eq_true rfl, Nat.le_of_ble_eq_true rfl⟩ 5 0 rfl rfl hP hD hS hl.1 rfl (Nat.le_of_ble_eq_true rfl) dX5_drift_78 (fun x2 H locs hs2 hP hD hS => ?_)
                have hP : va_P g.1 vwCl (mdW g a (x2.1, x1.2.1, y1.1, y1.2, w.2.2.2.2.1, w.2.2.2.2.2.1, w.2.2.2.2.2.2.1, lN s3, w.2.2.2.2.2.2.2.2.1, w.2.2.2.2.2.2.2.2.2.1, x2.2)) H := hP
                have hD : va_D A (mdW g a (x2.1, x1.2.1, y1.1, y1.2, w.2.2.2.2.1, w.2.2.2.2.2.1, w.2.2.2.2.2.2.1, lN s3, w.2.2.2.2.2.2.2.2.1, w.2.2.2.2.2.2.2.2.2.1, x2.2)) := hD
                refine lv_goto (tgt := 129) hx hb dX5_drift_81 (by decide) ?_
                have HD := sp_d1_eq (k := k) (x := (t, z)) e1 e2 e3 ew ei em (T := sp_pour t) (sp_dr_B c67 (hw1.1.symm.trans c74))
                have HR : sp_Rm x2.1 (sp_pour t) := hs2
                have HX := sp_M_sets (sp_M_set hy1 (as := x1.2.1) (pt := x2.2) HR) s3
                refine lv_iinc (v := nI (k + 1)) (lv' := [(2, .int (nI (k + 1))), (5, .int (nI mq)), (4, .int (nI iq)), (3, .int (nI wq)), (0, .ref a.1), (1, .int (nI n))]) hx hb dX5_drift_129 hl (k := 5) rfl (nI_1 k) (by decide) rfl (fun ls hl => ?_)
                refine lv_goto (tgt := 15) hx hb dX5_drift_132 (by decide) ?_
                exact ih15 (k + 1) (x2.1, x1.2.1, y1.1, y1.2, w.2.2.2.2.1, w.2.2.2.2.2.1, w.2.2.2.2.2.2.1, lN s3, w.2.2.2.2.2.2.2.2.1, w.2.2.2.2.2.2.2.2.2.1, x2.2) (sp_sets (sp_setn (sp_note (t, z)) (sp_pour t)) s3) _ _ _ (by omega) (HX) (by rw [← HD]; exact sp_J_mono (sp_J_d1 hJy (by omega) k) (by omega)) (by rw [← hh, lp_step sp_d1 (show k < n by omega), HD]) (by omega) hP hD hS (lv_sub hl [4, 5, 0] rfl)
          · have c48 := mt (nI_leI (by omega) (by omega)).mpr c48
            refine lv_aload_n hx hb dX5_drift_51 rfl (lv_at hl 3 rfl) ?_
            refine va_get (D := g.1) (ci := 5) (v := .ref a.2.1) (C := RX5) (T := TX5) (N := 11) hx hb hts inX5 hown hK.1 hP 0 rfl rfl 0 (by decide) (hts _ (List.mem_of_getElem? (i := 2) rfl)) (fun _ h9 => h9) rfl dX5_drift_52 ?_
            refine lv_iconst (v := nI 0) hx hb dX5_drift_55 (by decide) ?_
            refine lv_dup2_11 hx hb dX5_drift_56 rfl rfl ?_
            refine va_iald hx hb hK.1 hP 1 0 rfl rfl (vp_in_nI (by omega) (by omega)) dX5_drift_57 ?_
            refine sp_top (y := w.1 0) (congrArg w.1 (sp_c8 (k := 0) (by omega))) ?_
            refine sp_top (y := nI (td t)) (hM.d) ?_
            refine lv_iload hx hb dX5_drift_58 (lv_at hl 0 rfl) ?_
            refine lv_iadd hx hb dX5_drift_60 ?_
            refine sp_top (y := nI ((td t) + mq)) (nI_add _ _) ?_
            refine va_iast hx hb hK.1 hP hD hS 1 0 rfl rfl (vp_in_nI (by omega) (by omega)) dX5_drift_61 (fun H locs hP hD hS => ?_)
            rw [sp_c8 (k := 0) (by omega)] at hP hD
            have hP : va_P g.1 vwCl (mdW g a ((upd w.1 0 (nI ((td t) + mq))), w.2.1, y1.1, y1.2, w.2.2.2.2.1, w.2.2.2.2.2.1, w.2.2.2.2.2.2.1, lN s3, w.2.2.2.2.2.2.2.2.1, w.2.2.2.2.2.2.2.2.2.1, w.2.2.2.2.2.2.2.2.2.2)) H := hP
            have hD : va_D A (mdW g a ((upd w.1 0 (nI ((td t) + mq))), w.2.1, y1.1, y1.2, w.2.2.2.2.1, w.2.2.2.2.2.1, w.2.2.2.2.2.2.1, lN s3, w.2.2.2.2.2.2.2.2.1, w.2.2.2.2.2.2.2.2.2.1, w.2.2.2.2.2.2.2.2.2.2)) := hD
            refine lv_goto (tgt := 129) hx hb dX5_drift_62 (by decide) ?_
            have HD := sp_d1_eq (k := k) (x := (t, z)) e1 e2 e3 ew ei em (T := sp_setd t (td t + mq)) (sp_dr_A (by omega))
            have HR : sp_Rm (upd w.1 0 (nI ((td t) + mq))) (sp_setd t (td t + mq)) := sp_Rm_setd hM hn8 _ (fun _ _ _ => rfl)
            have HX := sp_M_sets (sp_M_set hy1 (as := w.2.1) (pt := w.2.2.2.2.2.2.2.2.2.2) HR) s3
            refine lv_iinc (v := nI (k + 1)) (lv' := [(2, .int (nI (k + 1))), (5, .int (nI mq)), (4, .int (nI iq)), (3, .int (nI wq)), (0, .ref a.1), (1, .int (nI n))]) hx hb dX5_drift_129 hl (k := 5) rfl (nI_1 k) (by decide) rfl (fun ls hl => ?_)
            refine lv_goto (tgt := 15) hx hb dX5_drift_132 (by decide) ?_
            exact ih15 (k + 1) ((upd w.1 0 (nI ((td t) + mq))), w.2.1, y1.1, y1.2, w.2.2.2.2.1, w.2.2.2.2.2.1, w.2.2.2.2.2.2.1, lN s3, w.2.2.2.2.2.2.2.2.1, w.2.2.2.2.2.2.2.2.2.1, w.2.2.2.2.2.2.2.2.2.2) (sp_sets (sp_setn (sp_note (t, z)) (sp_setd t (td t + mq))) s3) _ _ _ (by omega) (HX) (by rw [← HD]; exact sp_J_mono (sp_J_d1 hJy (by omega) k) (by omega)) (by rw [← hh, lp_step sp_d1 (show k < n by omega), HD]) (by omega) hP hD hS (lv_sub hl [4, 5, 0] rfl)
    exact hloop15 (_ + 1) 0 v (t, z) _ _ _ (Nat.zero_le _) (hX) (hJ) (rfl) (Nat.lt_succ_self _) hP hD hS (lv_sub hl [1, 2, 0] rfl)
  · have c1 := sp_b0.mp c1
    refine lv_ldc (v := (-1000000002)) hx hb hown (hts _ (List.mem_of_getElem? (i := 1) rfl)) dX5_drift_10 ?_
    exact hend _ _ _ _ _ v dX5_drift_12 (sp_an (o_drift_o (hbb.symm.trans c1)) hX) hP hD hS

set_option maxHeartbeats 4000000 in
set_option maxRecDepth 100000 in
theorem c_X5_holds (l : Launch) (g : sp_G) (a : sp_A9) (v : sp_V) (t : sp_T) (h4 : sp_R4 v.1 t) (hI : sp_I t) (mr cd : Nat) (hm1 : 1 ≤ mr) (hm3 : mr ≤ 3) (hc1 : 1 ≤ cd) (hc : cd ≤ 28) : sp_CB l g yX5_holds wsX5_holds ({ frames := 6, cells := 0, slots := 0, locals := 136 }) [.ref a.1, .int (nI mr), .int (nI cd)] (mdW g a v) (fun b (y : (Nat → Int32) × (Nat → Int32)) => b = sp_hold t mr cd ∧ sp_R4 y.1 t) (fun x => mdW g a (x.1, v.2.1, v.2.2.1, v.2.2.2.1, v.2.2.2.2.1, v.2.2.2.2.2.1, v.2.2.2.2.2.2.1, v.2.2.2.2.2.2.2.1, v.2.2.2.2.2.2.2.2.1, v.2.2.2.2.2.2.2.2.2.1, x.2)) := by
  refine sp_CB.of (cc := cX5_holds) (maxL := 8) (by decide) rfl (Nat.le_of_ble_eq_true rfl) ?_
  intro p e s m below meth c Q A ls SF hK hP hD hA hl hend
  have hx := SF.1
  have hb := SF.2.1
  have hown : s.vm.findClass RX5 = some m.cls := SF.2.2.2.1
  have hts := SF.2.2.2.2
  have hS : va_S A s.heap s.heap [] := va_S.rf
  have inX5 : ∀ w ∈ wsX50, w ∈ wsX5_holds := fun w h => List.mem_cons_of_mem _ (List.mem_append_right _ h)
  have hl : lv_has ls 8 [(0, .ref a.1), (1, .int (nI mr)), (2, .int (nI cd))] := hl
  have hn8 := hI.n
  refine lv_aload_n hx hb dX5_holds_0 rfl (lv_at hl 0 rfl) ?_
  refine va_get (D := g.1) (ci := 5) (v := .ref a.2.1) (C := RX5) (T := TX5) (N := 11) hx hb hts inX5 hown hK.1 hP 0 rfl rfl 0 (by decide) (hts _ (List.mem_of_getElem? (i := 1) rfl)) (fun _ h9 => h9) rfl dX5_holds_1 ?_
  refine lv_iconst (v := nI 0) hx hb dX5_holds_4 (by decide) ?_
  refine lv_iconst (v := nI 0) hx hb dX5_holds_5 (by decide) ?_
  refine va_iast hx hb hK.1 hP hD hS 1 0 rfl rfl (vp_in_nI (by omega) (by omega)) dX5_holds_6 (fun H locs hP hD hS => ?_)
  rw [sp_c8 (k := 0) (by omega)] at hP hD
  have hP : va_P g.1 vwCl (mdW g a ((upd v.1 0 (nI 0)), v.2.1, v.2.2.1, v.2.2.2.1, v.2.2.2.2.1, v.2.2.2.2.2.1, v.2.2.2.2.2.2.1, v.2.2.2.2.2.2.2.1, v.2.2.2.2.2.2.2.2.1, v.2.2.2.2.2.2.2.2.2.1, v.2.2.2.2.2.2.2.2.2.2)) H := hP
  have hD : va_D A (mdW g a ((upd v.1 0 (nI 0)), v.2.1, v.2.2.1, v.2.2.2.1, v.2.2.2.2.1, v.2.2.2.2.2.1, v.2.2.2.2.2.2.1, v.2.2.2.2.2.2.2.1, v.2.2.2.2.2.2.2.2.1, v.2.2.2.2.2.2.2.2.2.1, v.2.2.2.2.2.2.2.2.2.2)) := hD
  refine lv_aload_n hx hb dX5_holds_7 rfl (lv_at hl 0 rfl) ?_
  refine va_get (D := g.1) (ci := 5) (v := .ref a.2.1) (C := RX5) (T := TX5) (N := 11) hx hb hts inX5 hown hK.1 hP 0 rfl rfl 0 (by decide) (hts _ (List.mem_of_getElem? (i := 1) rfl)) (fun _ h9 => h9) rfl dX5_holds_8 ?_
  refine lv_iconst (v := nI 1) hx hb dX5_holds_11 (by decide) ?_
  refine lv_iconst (v := nI 0) hx hb dX5_holds_12 (by decide) ?_
  refine va_iast hx hb hK.1 hP hD hS 1 0 rfl rfl (vp_in_nI (by omega) (by omega)) dX5_holds_13 (fun H locs hP hD hS => ?_)
  rw [sp_c8 (k := 1) (by omega)] at hP hD
  have hP : va_P g.1 vwCl (mdW g a ((upd (upd v.1 0 (nI 0)) 1 (nI 0)), v.2.1, v.2.2.1, v.2.2.2.1, v.2.2.2.2.1, v.2.2.2.2.2.1, v.2.2.2.2.2.2.1, v.2.2.2.2.2.2.2.1, v.2.2.2.2.2.2.2.2.1, v.2.2.2.2.2.2.2.2.2.1, v.2.2.2.2.2.2.2.2.2.2)) H := hP
  have hD : va_D A (mdW g a ((upd (upd v.1 0 (nI 0)) 1 (nI 0)), v.2.1, v.2.2.1, v.2.2.2.1, v.2.2.2.2.1, v.2.2.2.2.2.1, v.2.2.2.2.2.2.1, v.2.2.2.2.2.2.2.1, v.2.2.2.2.2.2.2.2.1, v.2.2.2.2.2.2.2.2.2.1, v.2.2.2.2.2.2.2.2.2.2)) := hD
  refine lv_iconst (v := bI true) hx hb dX5_holds_14 (by decide) ?_
  refine lv_istore_n (lv' := [(3, .int (bI true)), (0, .ref a.1), (1, .int (nI mr)), (2, .int (nI cd))]) hx hb dX5_holds_15 rfl hl (by decide) rfl (fun ls hl => ?_)
  refine lv_iconst (v := nI 0) hx hb dX5_holds_16 (by decide) ?_
  refine lv_istore (lv' := [(4, .int (nI 0)), (3, .int (bI true)), (0, .ref a.1), (1, .int (nI mr)), (2, .int (nI cd))]) hx hb dX5_holds_17 hl (by decide) rfl (fun ls hl => ?_)
  have hloop19 : ∀ (n19 : Nat) (k : Nat) (b : Bool) (h : Nat → Int32) (pt : Nat → Int32) (r : sp_T) (H : Heap) (locs : List Loc) (ls : Array Slot), (k ≤ 8) → (b = true → sp_Rm h r ∧ sp_cyI t mr cd k r) → (b = false → sp_hold t mr cd = false) → (sp_R4 h t) → 8 - k < n19 → va_P g.1 vwCl (mdW g a (h, v.2.1, v.2.2.1, v.2.2.2.1, v.2.2.2.2.1, v.2.2.2.2.2.1, v.2.2.2.2.2.2.1, v.2.2.2.2.2.2.2.1, v.2.2.2.2.2.2.2.2.1, v.2.2.2.2.2.2.2.2.2.1, pt)) H → va_D A (mdW g a (h, v.2.1, v.2.2.1, v.2.2.2.1, v.2.2.2.2.1, v.2.2.2.2.2.1, v.2.2.2.2.2.2.1, v.2.2.2.2.2.2.2.1, v.2.2.2.2.2.2.2.2.1, v.2.2.2.2.2.2.2.2.2.1, pt)) → va_S A s.heap H locs → lv_has ls 8 [(0, .ref a.1), (1, .int (nI mr)), (2, .int (nI cd)), (3, .int (bI b)), (4, .int (nI k))] → W p l e ({ frames := 6, cells := 0, slots := 0, locals := 136 }) s m ([.ref a.1, .int (nI mr), .int (nI cd)] : List Value).toArray below meth c H locs 0 0 Q (F0 m 19 ls []) := by
    intro n19
    induction n19 with
    | zero =>
      intro k b h pt r H locs ls hk hbt hbf h4h h9
      exact absurd h9 (Nat.not_lt_zero _)
    | succ n19 ih19 =>
      intro k b h pt r H locs ls hk hbt hbf h4h hm19 hP hD hS hl
      refine lv_iload hx hb dX5_holds_19 (lv_at hl 4 rfl) ?_
      refine lv_bipush (v := nI 8) hx hb dX5_holds_21 (by decide) ?_
      refine lv_icmp_ge (tgt := 156) hx hb dX5_holds_23 (by decide) (fun c1 => ?_) (fun c1 => ?_)
      · have c1 := (nI_leI (by omega) (by omega)).mp c1
        have hfin : b = sp_hold t mr cd := sp_bool (fun q => sp_cyI_e (hbt q).2 c1) hbf
        refine lv_iload_n hx hb dX5_holds_156 rfl (lv_at hl 3 rfl) ?_
        exact hend _ _ _ _ b (h, pt) dX5_holds_157 (⟨hfin, h4h⟩) hP hD hS
      · have c1 := mt (nI_leI (by omega) (by omega)).mpr c1
        refine lv_iload_n hx hb dX5_holds_26 rfl (lv_at hl 3 rfl) ?_
        refine lv_if_eq (tgt := 156) hx hb dX5_holds_27 (by decide) (fun c2 => ?_) (fun c2 => ?_)
        · have c2 := sp_b0.mp c2
          have hfin : b = sp_hold t mr cd := c2.trans (hbf c2).symm
          refine lv_iload_n hx hb dX5_holds_156 rfl (lv_at hl 3 rfl) ?_
          exact hend _ _ _ _ b (h, pt) dX5_holds_157 (⟨hfin, h4h⟩) hP hD hS
        · have c2 := sp_b0n.mp c2
          obtain ⟨hM, hcy⟩ := hbt c2
          have hIr := hcy.1
          have hnr := hcy.2.1
          have hkc : k * cd ≤ 8 * 28 := Nat.mul_le_mul hk hc
          have hI1 := sp_cyI_d hcy (by omega) hc
          have hM1 := sp_Rm_setd (h := h) hM (by omega) (k * cd) (fun _ _ _ => rfl)
          refine lv_aload_n hx hb dX5_holds_30 rfl (lv_at hl 0 rfl) ?_
          refine va_get (D := g.1) (ci := 5) (v := .ref a.2.1) (C := RX5) (T := TX5) (N := 11) hx hb hts inX5 hown hK.1 hP 0 rfl rfl 0 (by decide) (hts _ (List.mem_of_getElem? (i := 1) rfl)) (fun _ h9 => h9) rfl dX5_holds_31 ?_
          refine lv_iconst (v := nI 0) hx hb dX5_holds_34 (by decide) ?_
          refine lv_iload_n hx hb dX5_holds_35 rfl (lv_at hl 2 rfl) ?_
          refine lv_iload hx hb dX5_holds_36 (lv_at hl 4 rfl) ?_
          refine lv_imul hx hb dX5_holds_38 ?_
          refine sp_top (y := nI (k * cd)) (by rw [sp_mul, Nat.mul_comm]) ?_
          refine va_iast hx hb hK.1 hP hD hS 1 0 rfl rfl (vp_in_nI (by omega) (by omega)) dX5_holds_39 (fun H locs hP hD hS => ?_)
          rw [sp_c8 (k := 0) (by omega)] at hP hD
          have hP : va_P g.1 vwCl (mdW g a ((upd h 0 (nI (k * cd))), v.2.1, v.2.2.1, v.2.2.2.1, v.2.2.2.2.1, v.2.2.2.2.2.1, v.2.2.2.2.2.2.1, v.2.2.2.2.2.2.2.1, v.2.2.2.2.2.2.2.2.1, v.2.2.2.2.2.2.2.2.2.1, pt)) H := hP
          have hD : va_D A (mdW g a ((upd h 0 (nI (k * cd))), v.2.1, v.2.2.1, v.2.2.2.1, v.2.2.2.2.1, v.2.2.2.2.2.1, v.2.2.2.2.2.2.1, v.2.2.2.2.2.2.2.1, v.2.2.2.2.2.2.2.2.1, v.2.2.2.2.2.2.2.2.2.1, pt)) := hD
          refine lv_iconst (v := nI 0) hx hb dX5_holds_40 (by decide) ?_
          refine lv_istore (lv' := [(5, .int (nI 0)), (0, .ref a.1), (1, .int (nI mr)), (2, .int (nI cd)), (3, .int (bI b)), (4, .int (nI k))]) hx hb dX5_holds_41 hl (by decide) rfl (fun ls hl => ?_)
          refine lv_iconst (v := (-1)) hx hb dX5_holds_43 (by decide) ?_
          refine lv_istore (lv' := [(6, .int (-1)), (5, .int (nI 0)), (0, .ref a.1), (1, .int (nI mr)), (2, .int (nI cd)), (3, .int (bI b)), (4, .int (nI k))]) hx hb dX5_holds_44 hl (by decide) rfl (fun ls hl => ?_)
          refine lv_aload_n hx hb dX5_holds_46 rfl (lv_at hl 2 rfl) ?_
          refine va_get (D := g.1) (ci := 5) (v := .ref a.2.1) (C := RX5) (T := TX5) (N := 11) hx hb hts inX5 hown hK.1 hP 0 rfl rfl 0 (by decide) (hts _ (List.mem_of_getElem? (i := 1) rfl)) (fun _ h9 => h9) rfl dX5_holds_47 ?_
          refine lv_iconst (v := nI 1) hx hb dX5_holds_50 (by decide) ?_
          refine va_iald hx hb hK.1 hP 1 0 rfl rfl (vp_in_nI (by omega) (by omega)) dX5_holds_51 ?_
          refine sp_top (y := (upd h 0 (nI (k * cd))) 1) (congrArg (upd h 0 (nI (k * cd))) (sp_c8 (k := 1) (by omega))) ?_
          refine sp_top (y := nI k) (by rw [sp_upd_n (by omega), hM.n, hnr]) ?_
          refine lv_iconst (v := nI 1) hx hb dX5_holds_52 (by decide) ?_
          refine lv_isub hx hb dX5_holds_53 ?_
          refine lv_istore (lv' := [(7, .int ((nI k) - (nI 1))), (6, .int (-1)), (5, .int (nI 0)), (0, .ref a.1), (1, .int (nI mr)), (2, .int (nI cd)), (3, .int (bI b)), (4, .int (nI k))]) hx hb dX5_holds_54 hl (by decide) rfl (fun ls hl => ?_)
          have hloop56 : ∀ (n56 : Nat) (j : Nat) (rr : Nat) (z : Int32) (H : Heap) (locs : List Loc) (ls : Array Slot), (j ≤ k) → (rr + cntF (tpr r) j = pcN (tpr r)) → (sp_lw (tpr r) j k z) → j < n56 → va_P g.1 vwCl (mdW g a ((upd h 0 (nI (k * cd))), v.2.1, v.2.2.1, v.2.2.2.1, v.2.2.2.2.1, v.2.2.2.2.2.1, v.2.2.2.2.2.2.1, v.2.2.2.2.2.2.2.1, v.2.2.2.2.2.2.2.2.1, v.2.2.2.2.2.2.2.2.2.1, pt)) H → va_D A (mdW g a ((upd h 0 (nI (k * cd))), v.2.1, v.2.2.1, v.2.2.2.1, v.2.2.2.2.1, v.2.2.2.2.2.1, v.2.2.2.2.2.2.1, v.2.2.2.2.2.2.2.1, v.2.2.2.2.2.2.2.2.1, v.2.2.2.2.2.2.2.2.2.1, pt)) → va_S A s.heap H locs → lv_has ls 8 [(0, .ref a.1), (1, .int (nI mr)), (2, .int (nI cd)), (3, .int (bI b)), (4, .int (nI k)), (5, .int (nI rr)), (6, .int z), (7, .int ((nI j) - (nI 1)))] → W p l e ({ frames := 6, cells := 0, slots := 0, locals := 136 }) s m ([.ref a.1, .int (nI mr), .int (nI cd)] : List Value).toArray below meth c H locs 0 0 Q (F0 m 56 ls []) := by
            intro n56
            induction n56 with
            | zero =>
              intro j rr z H locs ls hj hrr hz h9
              exact absurd h9 (Nat.not_lt_zero _)
            | succ n56 ih56 =>
              intro j rr z H locs ls hj hrr hz hm56 hP hD hS hl
              have hpc8 := sp_pcN_le (tpr r)
              refine lv_iload hx hb dX5_holds_56 (lv_at hl 7 rfl) ?_
              refine lv_if_lt (tgt := 104) hx hb dX5_holds_58 (by decide) (fun c5 => ?_) (fun c5 => ?_)
              · have c5 := (sp_pm (by omega)).mp c5
                subst c5
                refine lv_iload hx hb dX5_holds_104 (lv_at hl 5 rfl) ?_
                refine lv_iload_n hx hb dX5_holds_106 rfl (lv_at hl 1 rfl) ?_
                refine lv_icmp_ne (tgt := 129) hx hb dX5_holds_107 (by decide) (fun c8 => ?_) (fun c8 => ?_)
                · have c8 := mt (nI_eq (by omega) (by omega)).mpr c8
                  have hcy1 : cy1 mr (sp_setd r (k * cd)) = some (sp_setd r (k * cd)) := cy1_f (by show ¬ pcN (tpr r) = mr; have h0 : cntF (tpr r) 0 = 0 := rfl; omega)
                  refine lv_iload_n hx hb dX5_holds_129 rfl (lv_at hl 3 rfl) ?_
                  refine lv_if_eq (tgt := 150) hx hb dX5_holds_130 (by decide) (fun c13 => ?_) (fun c13 => ?_)
                  · have c13 := sp_b0.mp c13
                    exact absurd (c13.symm.trans c2) (by decide)
                  · have c13 := sp_b0n.mp c13
                    refine lv_aload_n hx hb dX5_holds_133 rfl (lv_at hl 0 rfl) ?_
                    refine sp_vv0 (n := 0) SF hK hA (c_X5_pours l g a ((upd h 0 (nI (k * cd))), v.2.1, v.2.2.1, v.2.2.2.1, v.2.2.2.2.1, v.2.2.2.2.2.1, v.2.2.2.2.2.2.1, v.2.2.2.2.2.2.2.1, v.2.2.2.2.2.2.2.2.1, v.2.2.2.2.2.2.2.2.2.1, pt) (sp_setd r (k * cd)) hM1 hI1 (by show tn r < 8; omega)) gX5_holds_X5_pours rfl rfl rfl (by decide +kernel) rfl ⟨Nat.le_of_ble_eq_true rfl, Nat.le_of_ble_eq_true rfl⟩ 5 0 rfl rfl hP hD hS hl.1 rfl (Nat.le_of_ble_eq_true rfl) dX5_holds_134 (fun x2 H locs hs2 hP hD hS => ?_)
                    have hP : va_P g.1 vwCl (mdW g a (x2.1, v.2.1, v.2.2.1, v.2.2.2.1, v.2.2.2.2.1, v.2.2.2.2.2.1, v.2.2.2.2.2.2.1, v.2.2.2.2.2.2.2.1, v.2.2.2.2.2.2.2.2.1, v.2.2.2.2.2.2.2.2.2.1, x2.2)) H := hP
                    have hD : va_D A (mdW g a (x2.1, v.2.1, v.2.2.1, v.2.2.2.1, v.2.2.2.2.1, v.2.2.2.2.2.1, v.2.2.2.2.2.2.1, v.2.2.2.2.2.2.2.1, v.2.2.2.2.2.2.2.2.1, v.2.2.2.2.2.2.2.2.2.1, x2.2)) := hD
                    refine lv_aload_n hx hb dX5_holds_137 rfl (lv_at hl 0 rfl) ?_
                    refine sp_vi0 (n := 0) SF hK hA (c_X5_weak l g a (x2.1, v.2.1, v.2.2.1, v.2.2.2.1, v.2.2.2.2.1, v.2.2.2.2.2.1, v.2.2.2.2.2.2.1, v.2.2.2.2.2.2.2.1, v.2.2.2.2.2.2.2.2.1, v.2.2.2.2.2.2.2.2.2.1, x2.2) (sp_pour (sp_setd r (k * cd))) hs2 (sp_I_pour hI1 (by show tn r < 8; omega))) gX5_holds_X5_weak rfl rfl rfl (by decide +kernel) rfl ⟨Nat.le_of_ble_eq_true rfl, Nat.le_of_ble_eq_true rfl⟩ 5 0 rfl rfl hP hD hS hl.1 rfl (Nat.le_of_ble_eq_true rfl) dX5_holds_138 (fun r9 u9 H locs w1 hP hD hS => ?_)
                    subst w1
                    have hP : va_P g.1 vwCl (mdW g a (x2.1, v.2.1, v.2.2.1, v.2.2.2.1, v.2.2.2.2.1, v.2.2.2.2.2.1, v.2.2.2.2.2.2.1, v.2.2.2.2.2.2.2.1, v.2.2.2.2.2.2.2.2.1, v.2.2.2.2.2.2.2.2.2.1, x2.2)) H := hP
                    have hD : va_D A (mdW g a (x2.1, v.2.1, v.2.2.1, v.2.2.2.1, v.2.2.2.2.1, v.2.2.2.2.2.1, v.2.2.2.2.2.2.1, v.2.2.2.2.2.2.2.1, v.2.2.2.2.2.2.2.2.1, v.2.2.2.2.2.2.2.2.2.1, x2.2)) := hD
                    refine lv_if_ne (tgt := 148) hx hb dX5_holds_141 (by decide) (fun c10 => ?_) (fun c10 => ?_)
                    · refine lv_iconst (v := bI false) hx hb dX5_holds_148 (by decide) ?_
                      refine lv_istore_n (lv' := [(3, .int (bI false)), (0, .ref a.1), (1, .int (nI mr)), (2, .int (nI cd)), (4, .int (nI k)), (5, .int (nI rr)), (6, .int z), (7, .int ((nI 0) - (nI 1)))]) hx hb dX5_holds_149 rfl hl (by decide) rfl (fun ls hl => ?_)
                      refine lv_iinc (v := nI (k + 1)) (lv' := [(4, .int (nI (k + 1))), (3, .int (bI false)), (0, .ref a.1), (1, .int (nI mr)), (2, .int (nI cd)), (5, .int (nI rr)), (6, .int z), (7, .int ((nI 0) - (nI 1)))]) hx hb dX5_holds_150 hl (k := 4) rfl (nI_1 k) (by decide) rfl (fun ls hl => ?_)
                      refine lv_goto (tgt := 19) hx hb dX5_holds_153 (by decide) ?_
                      exact ih19 (k + 1) false x2.1 x2.2 r _ _ _ (by omega) (fun q => absurd q (by decide)) (fun _ => sp_cyI_n hcy (by omega) (cyS_n2 hcy1 (cy2_n (decide_eq_false c10)))) (sp_R4_of hs2 (sp_sm_pour (show sp_sm (sp_setd r (k * cd)) t from hcy.2.2.2.1))) (by omega) hP hD hS (lv_sub hl [2, 3, 4, 1, 0] rfl)
                    · refine lv_iconst (v := bI true) hx hb dX5_holds_144 (by decide) ?_
                      refine lv_goto (tgt := 149) hx hb dX5_holds_145 (by decide) ?_
                      refine lv_istore_n (lv' := [(3, .int (bI true)), (0, .ref a.1), (1, .int (nI mr)), (2, .int (nI cd)), (4, .int (nI k)), (5, .int (nI rr)), (6, .int z), (7, .int ((nI 0) - (nI 1)))]) hx hb dX5_holds_149 rfl hl (by decide) rfl (fun ls hl => ?_)
                      refine lv_iinc (v := nI (k + 1)) (lv' := [(4, .int (nI (k + 1))), (3, .int (bI true)), (0, .ref a.1), (1, .int (nI mr)), (2, .int (nI cd)), (5, .int (nI rr)), (6, .int z), (7, .int ((nI 0) - (nI 1)))]) hx hb dX5_holds_150 hl (k := 4) rfl (nI_1 k) (by decide) rfl (fun ls hl => ?_)
                      refine lv_goto (tgt := 19) hx hb dX5_holds_153 (by decide) ?_
                      exact ih19 (k + 1) true x2.1 x2.2 (sp_pour (sp_setd r (k * cd))) _ _ _ (by omega) (fun _ => ⟨hs2, sp_cyI_s hcy (by omega) (cyS_s hcy1 (cy2_t (decide_eq_true c10))) (sp_I_pour hI1 (by show tn r < 8; omega)) (by rw [sp_pour_n]; exact congrArg (· + 1) hnr) (by rw [sp_pour_d]; show k * cd ≤ (k + 1) * cd; exact Nat.mul_le_mul_right cd (by omega)) (sp_sm_pour (show sp_sm (sp_setd r (k * cd)) t from hcy.2.2.2.1))⟩) (fun q => absurd q (by decide)) (sp_R4_of hs2 (sp_sm_pour (show sp_sm (sp_setd r (k * cd)) t from hcy.2.2.2.1))) (by omega) hP hD hS (lv_sub hl [2, 3, 4, 1, 0] rfl)
                · have c8 := (nI_eq (by omega) (by omega)).mp c8
                  have hpc : pcN (tpr r) = mr := by have h0 : cntF (tpr r) 0 = 0 := rfl; omega
                  obtain ⟨hze, hlo⟩ := sp_lw_e (t := (sp_setd r (k * cd))) hI1 (by rw [show tn (sp_setd r (k * cd)) = k from hnr]; exact hz) (by show 0 < pcN (tpr r); omega)
                  subst hze
                  refine lv_aload_n hx hb dX5_holds_110 rfl (lv_at hl 0 rfl) ?_
                  refine lv_iload hx hb dX5_holds_111 (lv_at hl 6 rfl) ?_
                  refine sp_vv0 (n := 1) SF hK hA (c_X5_strikes l g a ((upd h 0 (nI (k * cd))), v.2.1, v.2.2.1, v.2.2.2.1, v.2.2.2.2.1, v.2.2.2.2.2.1, v.2.2.2.2.2.2.1, v.2.2.2.2.2.2.2.1, v.2.2.2.2.2.2.2.2.1, v.2.2.2.2.2.2.2.2.2.1, pt) (sp_setd r (k * cd)) hM1 hI1 (sp_lop (sp_setd r (k * cd))) hlo) gX5_holds_X5_strikes rfl rfl rfl (by decide +kernel) rfl ⟨Nat.le_of_ble_eq_true rfl, Nat.le_of_ble_eq_true rfl⟩ 5 0 rfl rfl hP hD hS hl.1 rfl (Nat.le_of_ble_eq_true rfl) dX5_holds_113 (fun x1 H locs hs1 hP hD hS => ?_)
                  have hP : va_P g.1 vwCl (mdW g a (x1.1, v.2.1, v.2.2.1, v.2.2.2.1, v.2.2.2.2.1, v.2.2.2.2.2.1, v.2.2.2.2.2.2.1, v.2.2.2.2.2.2.2.1, v.2.2.2.2.2.2.2.2.1, v.2.2.2.2.2.2.2.2.2.1, x1.2)) H := hP
                  have hD : va_D A (mdW g a (x1.1, v.2.1, v.2.2.1, v.2.2.2.1, v.2.2.2.2.1, v.2.2.2.2.2.1, v.2.2.2.2.2.2.1, v.2.2.2.2.2.2.2.1, v.2.2.2.2.2.2.2.2.1, v.2.2.2.2.2.2.2.2.2.1, x1.2)) := hD
                  refine lv_aload_n hx hb dX5_holds_116 rfl (lv_at hl 0 rfl) ?_
                  refine sp_vi0 (n := 0) SF hK hA (c_X5_weak l g a (x1.1, v.2.1, v.2.2.1, v.2.2.2.1, v.2.2.2.2.1, v.2.2.2.2.2.1, v.2.2.2.2.2.2.1, v.2.2.2.2.2.2.2.1, v.2.2.2.2.2.2.2.2.1, v.2.2.2.2.2.2.2.2.2.1, x1.2) (sp_stk (sp_setd r (k * cd)) (sp_lop (sp_setd r (k * cd)))) hs1 (sp_I_stk hI1 _)) gX5_holds_X5_weak rfl rfl rfl (by decide +kernel) rfl ⟨Nat.le_of_ble_eq_true rfl, Nat.le_of_ble_eq_true rfl⟩ 5 0 rfl rfl hP hD hS hl.1 rfl (Nat.le_of_ble_eq_true rfl) dX5_holds_117 (fun r9 u9 H locs w2 hP hD hS => ?_)
                  subst w2
                  have hP : va_P g.1 vwCl (mdW g a (x1.1, v.2.1, v.2.2.1, v.2.2.2.1, v.2.2.2.2.1, v.2.2.2.2.2.1, v.2.2.2.2.2.2.1, v.2.2.2.2.2.2.2.1, v.2.2.2.2.2.2.2.2.1, v.2.2.2.2.2.2.2.2.2.1, x1.2)) H := hP
                  have hD : va_D A (mdW g a (x1.1, v.2.1, v.2.2.1, v.2.2.2.1, v.2.2.2.2.1, v.2.2.2.2.2.1, v.2.2.2.2.2.2.1, v.2.2.2.2.2.2.2.1, v.2.2.2.2.2.2.2.2.1, v.2.2.2.2.2.2.2.2.2.1, x1.2)) := hD
                  refine lv_if_ne (tgt := 127) hx hb dX5_holds_120 (by decide) (fun c9 => ?_) (fun c9 => ?_)
                  · refine lv_iconst (v := bI false) hx hb dX5_holds_127 (by decide) ?_
                    refine lv_istore_n (lv' := [(3, .int (bI false)), (0, .ref a.1), (1, .int (nI mr)), (2, .int (nI cd)), (4, .int (nI k)), (5, .int (nI rr)), (6, .int (nI (sp_lop (sp_setd r (k * cd))))), (7, .int ((nI 0) - (nI 1)))]) hx hb dX5_holds_128 rfl hl (by decide) rfl (fun ls hl => ?_)
                    refine lv_iload_n hx hb dX5_holds_129 rfl (lv_at hl 0 rfl) ?_
                    refine lv_if_eq (tgt := 150) hx hb dX5_holds_130 (by decide) (fun c13 => ?_) (fun c13 => ?_)
                    · have c13 := sp_b0.mp c13
                      refine lv_iinc (v := nI (k + 1)) (lv' := [(4, .int (nI (k + 1))), (3, .int (bI false)), (0, .ref a.1), (1, .int (nI mr)), (2, .int (nI cd)), (5, .int (nI rr)), (6, .int (nI (sp_lop (sp_setd r (k * cd))))), (7, .int ((nI 0) - (nI 1)))]) hx hb dX5_holds_150 hl (k := 4) rfl (nI_1 k) (by decide) rfl (fun ls hl => ?_)
                      refine lv_goto (tgt := 19) hx hb dX5_holds_153 (by decide) ?_
                      exact ih19 (k + 1) false x1.1 x1.2 r _ _ _ (by omega) (fun q => absurd q (by decide)) (fun _ => sp_cyI_n hcy (by omega) (cyS_n1 (cy1_n hpc (decide_eq_false c9)))) (sp_R4_of hs1 (sp_sm_stk (r := (sp_setd r (k * cd))) hcy.2.2.2.1 _)) (by omega) hP hD hS (lv_sub hl [2, 3, 4, 1, 0] rfl)
                    · have c13 := sp_b0n.mp c13
                      exact absurd c13 (by decide)
                  · refine lv_iconst (v := bI true) hx hb dX5_holds_123 (by decide) ?_
                    refine lv_goto (tgt := 128) hx hb dX5_holds_124 (by decide) ?_
                    refine lv_istore_n (lv' := [(3, .int (bI true)), (0, .ref a.1), (1, .int (nI mr)), (2, .int (nI cd)), (4, .int (nI k)), (5, .int (nI rr)), (6, .int (nI (sp_lop (sp_setd r (k * cd))))), (7, .int ((nI 0) - (nI 1)))]) hx hb dX5_holds_128 rfl hl (by decide) rfl (fun ls hl => ?_)
                    refine lv_iload_n hx hb dX5_holds_129 rfl (lv_at hl 0 rfl) ?_
                    refine lv_if_eq (tgt := 150) hx hb dX5_holds_130 (by decide) (fun c13 => ?_) (fun c13 => ?_)
                    · have c13 := sp_b0.mp c13
                      exact absurd c13 (by decide)
                    · have c13 := sp_b0n.mp c13
                      refine lv_aload_n hx hb dX5_holds_133 rfl (lv_at hl 1 rfl) ?_
                      refine sp_vv0 (n := 0) SF hK hA (c_X5_pours l g a (x1.1, v.2.1, v.2.2.1, v.2.2.2.1, v.2.2.2.2.1, v.2.2.2.2.2.1, v.2.2.2.2.2.2.1, v.2.2.2.2.2.2.2.1, v.2.2.2.2.2.2.2.2.1, v.2.2.2.2.2.2.2.2.2.1, x1.2) (sp_stk (sp_setd r (k * cd)) (sp_lop (sp_setd r (k * cd)))) hs1 (sp_I_stk hI1 _) (by rw [sp_stk_n]; show tn r < 8; omega)) gX5_holds_X5_pours rfl rfl rfl (by decide +kernel) rfl ⟨Nat.le_of_ble_eq_true rfl, Nat.le_of_ble_eq_true rfl⟩ 5 0 rfl rfl hP hD hS hl.1 rfl (Nat.le_of_ble_eq_true rfl) dX5_holds_134 (fun x2 H locs hs2 hP hD hS => ?_)
                      have hP : va_P g.1 vwCl (mdW g a (x2.1, v.2.1, v.2.2.1, v.2.2.2.1, v.2.2.2.2.1, v.2.2.2.2.2.1, v.2.2.2.2.2.2.1, v.2.2.2.2.2.2.2.1, v.2.2.2.2.2.2.2.2.1, v.2.2.2.2.2.2.2.2.2.1, x2.2)) H := hP
                      have hD : va_D A (mdW g a (x2.1, v.2.1, v.2.2.1, v.2.2.2.1, v.2.2.2.2.1, v.2.2.2.2.2.1, v.2.2.2.2.2.2.1, v.2.2.2.2.2.2.2.1, v.2.2.2.2.2.2.2.2.1, v.2.2.2.2.2.2.2.2.2.1, x2.2)) := hD
                      refine lv_aload_n hx hb dX5_holds_137 rfl (lv_at hl 1 rfl) ?_
                      refine sp_vi0 (n := 0) SF hK hA (c_X5_weak l g a (x2.1, v.2.1, v.2.2.1, v.2.2.2.1, v.2.2.2.2.1, v.2.2.2.2.2.1, v.2.2.2.2.2.2.1, v.2.2.2.2.2.2.2.1, v.2.2.2.2.2.2.2.2.1, v.2.2.2.2.2.2.2.2.2.1, x2.2) (sp_pour (sp_stk (sp_setd r (k * cd)) (sp_lop (sp_setd r (k * cd))))) hs2 (sp_I_pour (sp_I_stk hI1 _) (by rw [sp_stk_n]; show tn r < 8; omega))) gX5_holds_X5_weak rfl rfl rfl (by decide +kernel) rfl ⟨Nat.le_of_ble_eq_true rfl, Nat.le_of_ble_eq_true rfl⟩ 5 0 rfl rfl hP hD hS hl.1 rfl (Nat.le_of_ble_eq_true rfl) dX5_holds_138 (fun r9 u9 H locs w3 hP hD hS => ?_)
                      subst w3
                      have hP : va_P g.1 vwCl (mdW g a (x2.1, v.2.1, v.2.2.1, v.2.2.2.1, v.2.2.2.2.1, v.2.2.2.2.2.1, v.2.2.2.2.2.2.1, v.2.2.2.2.2.2.2.1, v.2.2.2.2.2.2.2.2.1, v.2.2.2.2.2.2.2.2.2.1, x2.2)) H := hP
                      have hD : va_D A (mdW g a (x2.1, v.2.1, v.2.2.1, v.2.2.2.1, v.2.2.2.2.1, v.2.2.2.2.2.1, v.2.2.2.2.2.2.1, v.2.2.2.2.2.2.2.1, v.2.2.2.2.2.2.2.2.1, v.2.2.2.2.2.2.2.2.2.1, x2.2)) := hD
                      refine lv_if_ne (tgt := 148) hx hb dX5_holds_141 (by decide) (fun c10 => ?_) (fun c10 => ?_)
                      · refine lv_iconst (v := bI false) hx hb dX5_holds_148 (by decide) ?_
                        refine lv_istore_n (lv' := [(3, .int (bI false)), (0, .ref a.1), (1, .int (nI mr)), (2, .int (nI cd)), (4, .int (nI k)), (5, .int (nI rr)), (6, .int (nI (sp_lop (sp_setd r (k * cd))))), (7, .int ((nI 0) - (nI 1)))]) hx hb dX5_holds_149 rfl hl (by decide) rfl (fun ls hl => ?_)
                        refine lv_iinc (v := nI (k + 1)) (lv' := [(4, .int (nI (k + 1))), (3, .int (bI false)), (0, .ref a.1), (1, .int (nI mr)), (2, .int (nI cd)), (5, .int (nI rr)), (6, .int (nI (sp_lop (sp_setd r (k * cd))))), (7, .int ((nI 0) - (nI 1)))]) hx hb dX5_holds_150 hl (k := 4) rfl (nI_1 k) (by decide) rfl (fun ls hl => ?_)
                        refine lv_goto (tgt := 19) hx hb dX5_holds_153 (by decide) ?_
                        exact ih19 (k + 1) false x2.1 x2.2 r _ _ _ (by omega) (fun q => absurd q (by decide)) (fun _ => sp_cyI_n hcy (by omega) (cyS_n2 (cy1_t hpc (decide_eq_true c9)) (cy2_n (decide_eq_false c10)))) (sp_R4_of hs2 (sp_sm_pour (sp_sm_stk (r := (sp_setd r (k * cd))) hcy.2.2.2.1 _))) (by omega) hP hD hS (lv_sub hl [2, 3, 4, 1, 0] rfl)
                      · refine lv_iconst (v := bI true) hx hb dX5_holds_144 (by decide) ?_
                        refine lv_goto (tgt := 149) hx hb dX5_holds_145 (by decide) ?_
                        refine lv_istore_n (lv' := [(3, .int (bI true)), (0, .ref a.1), (1, .int (nI mr)), (2, .int (nI cd)), (4, .int (nI k)), (5, .int (nI rr)), (6, .int (nI (sp_lop (sp_setd r (k * cd))))), (7, .int ((nI 0) - (nI 1)))]) hx hb dX5_holds_149 rfl hl (by decide) rfl (fun ls hl => ?_)
                        refine lv_iinc (v := nI (k + 1)) (lv' := [(4, .int (nI (k + 1))), (3, .int (bI true)), (0, .ref a.1), (1, .int (nI mr)), (2, .int (nI cd)), (5, .int (nI rr)), (6, .int (nI (sp_lop (sp_setd r (k * cd))))), (7, .int ((nI 0) - (nI 1)))]) hx hb dX5_holds_150 hl (k := 4) rfl (nI_1 k) (by decide) rfl (fun ls hl => ?_)
                        refine lv_goto (tgt := 19) hx hb dX5_holds_153 (by decide) ?_
                        exact ih19 (k + 1) true x2.1 x2.2 (sp_pour (sp_stk (sp_setd r (k * cd)) (sp_lop (sp_setd r (k * cd))))) _ _ _ (by omega) (fun _ => ⟨hs2, sp_cyI_s hcy (by omega) (cyS_s (cy1_t hpc (decide_eq_true c9)) (cy2_t (decide_eq_true c10))) (sp_I_pour (sp_I_stk hI1 _) (by rw [sp_stk_n]; show tn r < 8; omega)) (by rw [sp_pour_n, sp_stk_n]; exact congrArg (· + 1) hnr) (by rw [sp_pour_d, sp_stk_d]; show k * cd ≤ (k + 1) * cd; exact Nat.mul_le_mul_right cd (by omega)) (sp_sm_pour (sp_sm_stk (r := (sp_setd r (k * cd))) hcy.2.2.2.1 _))⟩) (fun q => absurd q (by decide)) (sp_R4_of hs2 (sp_sm_pour (sp_sm_stk (r := (sp_setd r (k * cd))) hcy.2.2.2.1 _))) (by omega) hP hD hS (lv_sub hl [2, 3, 4, 1, 0] rfl)
              · have c5 := mt (sp_pm (by omega)).mpr c5
                obtain ⟨j2, rfl⟩ : ∃ j2, j = j2 + 1 := ⟨j - 1, by omega⟩
                refine lv_iload hx hb dX5_holds_61 (lv_at hl 5 rfl) ?_
                refine lv_aload_n hx hb dX5_holds_63 rfl (lv_at hl 0 rfl) ?_
                refine lv_iload hx hb dX5_holds_64 (lv_at hl 7 rfl) ?_
                refine sp_top (y := nI j2) (nI_pred j2) ?_
                refine sp_vi0 (n := 1) SF hK hA (c_X5_isPropped l g a ((upd h 0 (nI (k * cd))), v.2.1, v.2.2.1, v.2.2.2.1, v.2.2.2.2.1, v.2.2.2.2.2.1, v.2.2.2.2.2.2.1, v.2.2.2.2.2.2.2.1, v.2.2.2.2.2.2.2.2.1, v.2.2.2.2.2.2.2.2.2.1, pt) (sp_setd r (k * cd)) hM1 hI1 j2 (by show j2 < tn r; omega)) gX5_holds_X5_isPropped rfl rfl rfl (by decide +kernel) rfl ⟨Nat.le_of_ble_eq_true rfl, Nat.le_of_ble_eq_true rfl⟩ 5 0 rfl rfl hP hD hS hl.1 rfl (Nat.le_of_ble_eq_true rfl) dX5_holds_66 (fun r9 u9 H locs hb5 hP hD hS => ?_)
                obtain ⟨b5, rfl, hb5⟩ := hb5
                have hP : va_P g.1 vwCl (mdW g a ((upd h 0 (nI (k * cd))), v.2.1, v.2.2.1, v.2.2.2.1, v.2.2.2.2.1, v.2.2.2.2.2.1, v.2.2.2.2.2.2.1, v.2.2.2.2.2.2.2.1, v.2.2.2.2.2.2.2.2.1, v.2.2.2.2.2.2.2.2.2.1, pt)) H := hP
                have hD : va_D A (mdW g a ((upd h 0 (nI (k * cd))), v.2.1, v.2.2.1, v.2.2.2.1, v.2.2.2.2.1, v.2.2.2.2.2.1, v.2.2.2.2.2.2.1, v.2.2.2.2.2.2.2.1, v.2.2.2.2.2.2.2.2.1, v.2.2.2.2.2.2.2.2.2.1, pt)) := hD
                have hbt5 : (tpr r).testBit j2 = b5 := hb5.symm
                refine lv_if_eq (tgt := 76) hx hb dX5_holds_69 (by decide) (fun c6 => ?_) (fun c6 => ?_)
                · have c6 := sp_b0.mp c6
                  refine lv_iconst (v := nI 0) hx hb dX5_holds_76 (by decide) ?_
                  refine lv_iadd hx hb dX5_holds_77 ?_
                  refine sp_top (y := nI (rr + 0)) (nI_add _ _) ?_
                  refine lv_istore (lv' := [(5, .int (nI (rr + 0))), (0, .ref a.1), (1, .int (nI mr)), (2, .int (nI cd)), (3, .int (bI b)), (4, .int (nI k)), (6, .int z), (7, .int ((nI (j2 + 1)) - (nI 1)))]) hx hb dX5_holds_78 hl (by decide) rfl (fun ls hl => ?_)
                  refine lv_aload_n hx hb dX5_holds_80 rfl (lv_at hl 1 rfl) ?_
                  refine lv_iload hx hb dX5_holds_81 (lv_at hl 7 rfl) ?_
                  refine sp_top (y := nI j2) (nI_pred j2) ?_
                  refine sp_vi0 (n := 1) SF hK hA (c_X5_isPropped l g a ((upd h 0 (nI (k * cd))), v.2.1, v.2.2.1, v.2.2.2.1, v.2.2.2.2.1, v.2.2.2.2.2.1, v.2.2.2.2.2.2.1, v.2.2.2.2.2.2.2.1, v.2.2.2.2.2.2.2.2.1, v.2.2.2.2.2.2.2.2.2.1, pt) (sp_setd r (k * cd)) hM1 hI1 j2 (by show j2 < tn r; omega)) gX5_holds_X5_isPropped rfl rfl rfl (by decide +kernel) rfl ⟨Nat.le_of_ble_eq_true rfl, Nat.le_of_ble_eq_true rfl⟩ 5 0 rfl rfl hP hD hS hl.1 rfl (Nat.le_of_ble_eq_true rfl) dX5_holds_83 (fun r9 u9 H locs hb6 hP hD hS => ?_)
                  obtain ⟨b6, rfl, hb6⟩ := hb6
                  have hP : va_P g.1 vwCl (mdW g a ((upd h 0 (nI (k * cd))), v.2.1, v.2.2.1, v.2.2.2.1, v.2.2.2.2.1, v.2.2.2.2.2.1, v.2.2.2.2.2.2.1, v.2.2.2.2.2.2.2.1, v.2.2.2.2.2.2.2.2.1, v.2.2.2.2.2.2.2.2.2.1, pt)) H := hP
                  have hD : va_D A (mdW g a ((upd h 0 (nI (k * cd))), v.2.1, v.2.2.1, v.2.2.2.1, v.2.2.2.2.1, v.2.2.2.2.2.1, v.2.2.2.2.2.2.1, v.2.2.2.2.2.2.2.1, v.2.2.2.2.2.2.2.2.1, v.2.2.2.2.2.2.2.2.2.1, pt)) := hD
                  refine lv_if_eq (tgt := 94) hx hb dX5_holds_86 (by decide) (fun c7 => ?_) (fun c7 => ?_)
                  · have c7 := sp_b0.mp c7
                    refine lv_iload hx hb dX5_holds_94 (lv_at hl 6 rfl) ?_
                    refine lv_istore (lv' := [(6, .int z), (5, .int (nI (rr + 0))), (0, .ref a.1), (1, .int (nI mr)), (2, .int (nI cd)), (3, .int (bI b)), (4, .int (nI k)), (7, .int ((nI (j2 + 1)) - (nI 1)))]) hx hb dX5_holds_96 hl (by decide) rfl (fun ls hl => ?_)
                    refine lv_iinc (v := (nI j2) - (nI 1)) (lv' := [(7, .int ((nI j2) - (nI 1))), (6, .int z), (5, .int (nI (rr + 0))), (0, .ref a.1), (1, .int (nI mr)), (2, .int (nI cd)), (3, .int (bI b)), (4, .int (nI k))]) hx hb dX5_holds_98 hl (k := 7) rfl (sp_pd j2) (by decide) rfl (fun ls hl => ?_)
                    refine lv_goto (tgt := 56) hx hb dX5_holds_101 (by decide) ?_
                    exact ih56 j2 (rr + 0) z _ _ _ (by omega) (by rw [cntF_s, hbt5, c6] at hrr; simp at hrr; omega) (sp_lw_f hz (hbt5.trans c6)) (by omega) hP hD hS (lv_sub hl [3, 4, 5, 6, 7, 2, 1, 0] rfl)
                  · have c7 := sp_b0n.mp c7
                    exact absurd (c6.symm.trans (hb5.trans (hb6.symm.trans c7))) (by decide)
                · have c6 := sp_b0n.mp c6
                  refine lv_iconst (v := nI 1) hx hb dX5_holds_72 (by decide) ?_
                  refine lv_goto (tgt := 77) hx hb dX5_holds_73 (by decide) ?_
                  refine lv_iadd hx hb dX5_holds_77 ?_
                  refine sp_top (y := nI (rr + 1)) (nI_add _ _) ?_
                  refine lv_istore (lv' := [(5, .int (nI (rr + 1))), (0, .ref a.1), (1, .int (nI mr)), (2, .int (nI cd)), (3, .int (bI b)), (4, .int (nI k)), (6, .int z), (7, .int ((nI (j2 + 1)) - (nI 1)))]) hx hb dX5_holds_78 hl (by decide) rfl (fun ls hl => ?_)
                  refine lv_aload_n hx hb dX5_holds_80 rfl (lv_at hl 1 rfl) ?_
                  refine lv_iload hx hb dX5_holds_81 (lv_at hl 7 rfl) ?_
                  refine sp_top (y := nI j2) (nI_pred j2) ?_
                  refine sp_vi0 (n := 1) SF hK hA (c_X5_isPropped l g a ((upd h 0 (nI (k * cd))), v.2.1, v.2.2.1, v.2.2.2.1, v.2.2.2.2.1, v.2.2.2.2.2.1, v.2.2.2.2.2.2.1, v.2.2.2.2.2.2.2.1, v.2.2.2.2.2.2.2.2.1, v.2.2.2.2.2.2.2.2.2.1, pt) (sp_setd r (k * cd)) hM1 hI1 j2 (by show j2 < tn r; omega)) gX5_holds_X5_isPropped rfl rfl rfl (by decide +kernel) rfl ⟨Nat.le_of_ble_eq_true rfl, Nat.le_of_ble_eq_true rfl⟩ 5 0 rfl rfl hP hD hS hl.1 rfl (Nat.le_of_ble_eq_true rfl) dX5_holds_83 (fun r9 u9 H locs hb6 hP hD hS => ?_)
                  obtain ⟨b6, rfl, hb6⟩ := hb6
                  have hP : va_P g.1 vwCl (mdW g a ((upd h 0 (nI (k * cd))), v.2.1, v.2.2.1, v.2.2.2.1, v.2.2.2.2.1, v.2.2.2.2.2.1, v.2.2.2.2.2.2.1, v.2.2.2.2.2.2.2.1, v.2.2.2.2.2.2.2.2.1, v.2.2.2.2.2.2.2.2.2.1, pt)) H := hP
                  have hD : va_D A (mdW g a ((upd h 0 (nI (k * cd))), v.2.1, v.2.2.1, v.2.2.2.1, v.2.2.2.2.1, v.2.2.2.2.2.1, v.2.2.2.2.2.2.1, v.2.2.2.2.2.2.2.1, v.2.2.2.2.2.2.2.2.1, v.2.2.2.2.2.2.2.2.2.1, pt)) := hD
                  refine lv_if_eq (tgt := 94) hx hb dX5_holds_86 (by decide) (fun c7 => ?_) (fun c7 => ?_)
                  · have c7 := sp_b0.mp c7
                    exact absurd (c7.symm.trans (hb6.trans (hb5.symm.trans c6))) (by decide)
                  · have c7 := sp_b0n.mp c7
                    refine lv_iload hx hb dX5_holds_89 (lv_at hl 7 rfl) ?_
                    refine sp_top (y := nI j2) (nI_pred j2) ?_
                    refine lv_goto (tgt := 96) hx hb dX5_holds_91 (by decide) ?_
                    refine lv_istore (lv' := [(6, .int (nI j2)), (5, .int (nI (rr + 1))), (0, .ref a.1), (1, .int (nI mr)), (2, .int (nI cd)), (3, .int (bI b)), (4, .int (nI k)), (7, .int ((nI (j2 + 1)) - (nI 1)))]) hx hb dX5_holds_96 hl (by decide) rfl (fun ls hl => ?_)
                    refine lv_iinc (v := (nI j2) - (nI 1)) (lv' := [(7, .int ((nI j2) - (nI 1))), (6, .int (nI j2)), (5, .int (nI (rr + 1))), (0, .ref a.1), (1, .int (nI mr)), (2, .int (nI cd)), (3, .int (bI b)), (4, .int (nI k))]) hx hb dX5_holds_98 hl (k := 7) rfl (sp_pd j2) (by decide) rfl (fun ls hl => ?_)
                    refine lv_goto (tgt := 56) hx hb dX5_holds_101 (by decide) ?_
                    exact ih56 j2 (rr + 1) (nI j2) _ _ _ (by omega) (by rw [cntF_s, hbt5, c6] at hrr; simp at hrr; omega) (sp_lw_t (z := z) (by omega) (hbt5.trans c6)) (by omega) hP hD hS (lv_sub hl [3, 4, 5, 6, 7, 2, 1, 0] rfl)
          exact hloop56 (_ + 1) k 0 (-1) _ _ _ (Nat.le_refl _) (by rw [Nat.zero_add, ← hnr]; exact cntF_8 hIr.pr (by omega)) (Or.inl ⟨rfl, fun i h1 h2 => absurd h1 (by omega)⟩) (Nat.lt_succ_self _) hP hD hS (lv_sub hl [3, 4, 5, 6, 7, 2, 1, 0] rfl)
  exact hloop19 (_ + 1) 0 true (upd (upd v.1 0 (nI 0)) 1 (nI 0)) v.2.2.2.2.2.2.2.2.2.2 (sp_clr t) _ _ _ (by omega) (fun _ => ⟨sp_Rm_clr h4, sp_cyI_0 hI mr cd⟩) (fun q => absurd q (by decide)) (sp_R4_upd (sp_R4_upd h4 (by omega) _) (by omega) _) (Nat.lt_succ_self _) hP hD hS (lv_sub hl [2, 3, 4, 1, 0] rfl)

set_option maxHeartbeats 4000000 in
set_option maxRecDepth 100000 in
theorem c_X5_cycle (l : Launch) (g : sp_G) (a : sp_A9) (v : sp_V) (x : sp_S) (hX : sp_M v x) (B : Nat) (hJ : sp_J x B) (hB : B ≤ 150000) (m0 : Int32) : sp_CI l g yX5_cycle wsX5_cycle ({ frames := 7, cells := 0, slots := 0, locals := 163 }) [.ref a.1, .int m0] (mdW g a v) (fun r (w : sp_V) => r = o_cycle (s_now x) m0 ∧ sp_M w x) (fun w => mdW g a w) := by
  obtain ⟨t, z⟩ := x
  refine sp_CI.of (cc := cX5_cycle) (maxL := 4) (by decide) rfl (Nat.le_of_ble_eq_true rfl) ?_
  intro p e s m below meth c Q A ls SF hK hP hD hA hl hend
  have hx := SF.1
  have hb := SF.2.1
  have hown : s.vm.findClass RX5 = some m.cls := SF.2.2.2.1
  have hts := SF.2.2.2.2
  have hS : va_S A s.heap s.heap [] := va_S.rf
  have inX5 : ∀ w ∈ wsX50, w ∈ wsX5_cycle := fun w h => List.mem_cons_of_mem _ (List.mem_append_right _ h)
  have hl : lv_has ls 4 [(0, .ref a.1), (1, .int m0)] := hl
  have hM : sp_Rm v.1 t := hX.now
  have hI : sp_I t := hJ.now
  have hn8 := hI.n
  have hdB : td t ≤ B := hJ.d
  refine lv_iload_n hx hb dX5_cycle_0 rfl (lv_at hl 1 rfl) ?_
  refine lv_iconst (v := nI 1) hx hb dX5_cycle_1 (by decide) ?_
  refine lv_iconst (v := nI 3) hx hb dX5_cycle_2 (by decide) ?_
  refine sp_si (n := 3) (wc := []) (wr := (mdW g a v)) SF hK hA (c_X5_in l g m0 (nI 1) (nI 3)) gX5_cycle_X5_in rfl rfl rfl (by decide +kernel) rfl ⟨Nat.le_of_ble_eq_true rfl, Nat.le_of_ble_eq_true rfl⟩ hP hD hS hl.1 rfl (Nat.le_of_ble_eq_true rfl) dX5_cycle_3 (fun r9 u9 H locs hbb hP hD hS => ?_)
  obtain ⟨bb, rfl, hbb⟩ := hbb
  have hP : va_P g.1 vwCl (mdW g a v) H := hP
  have hD : va_D A (mdW g a v) := hD
  refine lv_if_ne (tgt := 12) hx hb dX5_cycle_6 (by decide) (fun c1 => ?_) (fun c1 => ?_)
  · have c1 := sp_b0n.mp c1
    obtain ⟨mr, h1, h2, rfl⟩ := sp_inI_t (by omega) (by omega) (hbb.symm.trans c1)
    refine lv_iconst (v := (-1)) hx hb dX5_cycle_12 (by decide) ?_
    refine lv_istore_n (lv' := [(2, .int (-1)), (0, .ref a.1), (1, .int (nI mr))]) hx hb dX5_cycle_13 rfl hl (by decide) rfl (fun ls hl => ?_)
    refine lv_aload_n hx hb dX5_cycle_14 rfl (lv_at hl 1 rfl) ?_
    refine sp_vv0 (n := 0) SF hK hA (c_X5_lays l g a v) gX5_cycle_X5_lays rfl rfl rfl (by decide +kernel) rfl ⟨Nat.le_of_ble_eq_true rfl, Nat.le_of_ble_eq_true rfl⟩ 5 0 rfl rfl hP hD hS hl.1 rfl (Nat.le_of_ble_eq_true rfl) dX5_cycle_15 (fun as1 H locs ha1 hP hD hS => ?_)
    have hP : va_P g.1 vwCl (mdW g a (v.1, as1, v.2.2.1, v.2.2.2.1, v.2.2.2.2.1, v.2.2.2.2.2.1, v.2.2.2.2.2.2.1, v.2.2.2.2.2.2.2.1, v.2.2.2.2.2.2.2.2.1, v.2.2.2.2.2.2.2.2.2.1, v.2.2.2.2.2.2.2.2.2.2)) H := hP
    have hD : va_D A (mdW g a (v.1, as1, v.2.2.1, v.2.2.2.1, v.2.2.2.2.1, v.2.2.2.2.2.1, v.2.2.2.2.2.2.1, v.2.2.2.2.2.2.2.1, v.2.2.2.2.2.2.2.2.1, v.2.2.2.2.2.2.2.2.2.1, v.2.2.2.2.2.2.2.2.2.2)) := hD
    refine lv_iconst (v := nI 1) hx hb dX5_cycle_18 (by decide) ?_
    refine lv_istore_n (lv' := [(3, .int (nI 1)), (2, .int (-1)), (0, .ref a.1), (1, .int (nI mr))]) hx hb dX5_cycle_19 rfl hl (by decide) rfl (fun ls hl => ?_)
    have hloop20 : ∀ (n20 : Nat) (cd : Nat) (zz : Int32) (h : Nat → Int32) (pt : Nat → Int32) (H : Heap) (locs : List Loc) (ls : Array Slot), (1 ≤ cd) → (cd ≤ 29) → ((zz = -1 ∧ cyF t mr (29 - cd) cd = cyF t mr 28 1) ∨ (¬ zz = -1 ∧ zz = cyF t mr 28 1)) → (sp_R4 h t) → 29 - cd < n20 → va_P g.1 vwCl (mdW g a (h, as1, v.2.2.1, v.2.2.2.1, v.2.2.2.2.1, v.2.2.2.2.2.1, v.2.2.2.2.2.2.1, v.2.2.2.2.2.2.2.1, v.2.2.2.2.2.2.2.2.1, v.2.2.2.2.2.2.2.2.2.1, pt)) H → va_D A (mdW g a (h, as1, v.2.2.1, v.2.2.2.1, v.2.2.2.2.1, v.2.2.2.2.2.1, v.2.2.2.2.2.2.1, v.2.2.2.2.2.2.2.1, v.2.2.2.2.2.2.2.2.1, v.2.2.2.2.2.2.2.2.2.1, pt)) → va_S A s.heap H locs → lv_has ls 4 [(0, .ref a.1), (1, .int (nI mr)), (2, .int zz), (3, .int (nI cd))] → W p l e ({ frames := 7, cells := 0, slots := 0, locals := 163 }) s m ([.ref a.1, .int (nI mr)] : List Value).toArray below meth c H locs 0 0 Q (F0 m 20 ls []) := by
      intro n20
      induction n20 with
      | zero =>
        intro cd zz h pt H locs ls hc1 hc2 hz h4 h9
        exact absurd h9 (Nat.not_lt_zero _)
      | succ n20 ih20 =>
        intro cd zz h pt H locs ls hc1 hc2 hz h4 hm20 hP hD hS hl
        refine lv_iload_n hx hb dX5_cycle_20 rfl (lv_at hl 3 rfl) ?_
        refine lv_bipush (v := nI 29) hx hb dX5_cycle_21 (by decide) ?_
        refine lv_icmp_ge (tgt := 52) hx hb dX5_cycle_23 (by decide) (fun c2 => ?_) (fun c2 => ?_)
        · have c2 := (nI_leI (by omega) (by omega)).mp c2
          have hfin : zz = cyF t mr 28 1 := by
            rcases hz with q | q
            · rw [← q.2, cyF_e c2]; exact q.1
            · exact q.2
          refine lv_aload_n hx hb dX5_cycle_52 rfl (lv_at hl 0 rfl) ?_
          refine sp_vv0 (n := 0) SF hK hA (c_X5_takesBack l g a (h, as1, v.2.2.1, v.2.2.2.1, v.2.2.2.2.1, v.2.2.2.2.2.1, v.2.2.2.2.2.2.1, v.2.2.2.2.2.2.2.1, v.2.2.2.2.2.2.2.2.1, v.2.2.2.2.2.2.2.2.2.1, pt)) gX5_cycle_X5_takesBack rfl rfl rfl (by decide +kernel) rfl ⟨Nat.le_of_ble_eq_true rfl, Nat.le_of_ble_eq_true rfl⟩ 5 0 rfl rfl hP hD hS hl.1 rfl (Nat.le_of_ble_eq_true rfl) dX5_cycle_53 (fun nw1 H locs hb1 hP hD hS => ?_)
          have hP : va_P g.1 vwCl (mdW g a (nw1, as1, v.2.2.1, v.2.2.2.1, v.2.2.2.2.1, v.2.2.2.2.2.1, v.2.2.2.2.2.2.1, v.2.2.2.2.2.2.2.1, v.2.2.2.2.2.2.2.2.1, v.2.2.2.2.2.2.2.2.2.1, pt)) H := hP
          have hD : va_D A (mdW g a (nw1, as1, v.2.2.1, v.2.2.2.1, v.2.2.2.2.1, v.2.2.2.2.2.1, v.2.2.2.2.2.2.1, v.2.2.2.2.2.2.2.1, v.2.2.2.2.2.2.2.2.1, v.2.2.2.2.2.2.2.2.2.1, pt)) := hD
          refine lv_iload_n hx hb dX5_cycle_56 rfl (lv_at hl 2 rfl) ?_
          exact hend _ _ _ _ _ (nw1, as1, v.2.2.1, v.2.2.2.1, v.2.2.2.2.1, v.2.2.2.2.2.1, v.2.2.2.2.2.2.1, v.2.2.2.2.2.2.2.1, v.2.2.2.2.2.2.2.2.1, v.2.2.2.2.2.2.2.2.2.1, pt) dX5_cycle_57 (⟨hfin.trans (o_cycle_y h1 h2).symm, sp_M_ext hX hn8 (fun j5 hj5 => (hb1 j5 hj5).trans (ha1 j5 hj5))⟩) hP hD hS
        · have c2 := mt (nI_leI (by omega) (by omega)).mpr c2
          refine lv_iload_n hx hb dX5_cycle_26 rfl (lv_at hl 2 rfl) ?_
          refine lv_iconst (v := (-1)) hx hb dX5_cycle_27 (by decide) ?_
          refine lv_icmp_ne (tgt := 52) hx hb dX5_cycle_28 (by decide) (fun c3 => ?_) (fun c3 => ?_)
          · have hfin : zz = cyF t mr 28 1 := (hz.resolve_left (fun q => c3 q.1)).2
            refine lv_aload_n hx hb dX5_cycle_52 rfl (lv_at hl 0 rfl) ?_
            refine sp_vv0 (n := 0) SF hK hA (c_X5_takesBack l g a (h, as1, v.2.2.1, v.2.2.2.1, v.2.2.2.2.1, v.2.2.2.2.2.1, v.2.2.2.2.2.2.1, v.2.2.2.2.2.2.2.1, v.2.2.2.2.2.2.2.2.1, v.2.2.2.2.2.2.2.2.2.1, pt)) gX5_cycle_X5_takesBack rfl rfl rfl (by decide +kernel) rfl ⟨Nat.le_of_ble_eq_true rfl, Nat.le_of_ble_eq_true rfl⟩ 5 0 rfl rfl hP hD hS hl.1 rfl (Nat.le_of_ble_eq_true rfl) dX5_cycle_53 (fun nw1 H locs hb1 hP hD hS => ?_)
            have hP : va_P g.1 vwCl (mdW g a (nw1, as1, v.2.2.1, v.2.2.2.1, v.2.2.2.2.1, v.2.2.2.2.2.1, v.2.2.2.2.2.2.1, v.2.2.2.2.2.2.2.1, v.2.2.2.2.2.2.2.2.1, v.2.2.2.2.2.2.2.2.2.1, pt)) H := hP
            have hD : va_D A (mdW g a (nw1, as1, v.2.2.1, v.2.2.2.1, v.2.2.2.2.1, v.2.2.2.2.2.1, v.2.2.2.2.2.2.1, v.2.2.2.2.2.2.2.1, v.2.2.2.2.2.2.2.2.1, v.2.2.2.2.2.2.2.2.2.1, pt)) := hD
            refine lv_iload_n hx hb dX5_cycle_56 rfl (lv_at hl 2 rfl) ?_
            exact hend _ _ _ _ _ (nw1, as1, v.2.2.1, v.2.2.2.1, v.2.2.2.2.1, v.2.2.2.2.2.1, v.2.2.2.2.2.2.1, v.2.2.2.2.2.2.2.1, v.2.2.2.2.2.2.2.2.1, v.2.2.2.2.2.2.2.2.2.1, pt) dX5_cycle_57 (⟨hfin.trans (o_cycle_y h1 h2).symm, sp_M_ext hX hn8 (fun j5 hj5 => (hb1 j5 hj5).trans (ha1 j5 hj5))⟩) hP hD hS
          · refine lv_aload_n hx hb dX5_cycle_31 rfl (lv_at hl 0 rfl) ?_
            refine lv_iload_n hx hb dX5_cycle_32 rfl (lv_at hl 1 rfl) ?_
            refine lv_iload_n hx hb dX5_cycle_33 rfl (lv_at hl 3 rfl) ?_
            refine sp_vi0 (n := 2) SF hK hA (c_X5_holds l g a (h, as1, v.2.2.1, v.2.2.2.1, v.2.2.2.2.1, v.2.2.2.2.2.1, v.2.2.2.2.2.2.1, v.2.2.2.2.2.2.2.1, v.2.2.2.2.2.2.2.2.1, v.2.2.2.2.2.2.2.2.2.1, pt) t h4 hI mr cd h1 h2 (by omega) (by omega)) gX5_cycle_X5_holds rfl rfl rfl (by decide +kernel) rfl ⟨Nat.le_of_ble_eq_true rfl, Nat.le_of_ble_eq_true rfl⟩ 5 0 rfl rfl hP hD hS hl.1 rfl (Nat.le_of_ble_eq_true rfl) dX5_cycle_34 (fun r9 x1 H locs hw1 hP hD hS => ?_)
            obtain ⟨b1, rfl, hw1⟩ := hw1
            have hP : va_P g.1 vwCl (mdW g a (x1.1, as1, v.2.2.1, v.2.2.2.1, v.2.2.2.2.1, v.2.2.2.2.2.1, v.2.2.2.2.2.2.1, v.2.2.2.2.2.2.2.1, v.2.2.2.2.2.2.2.2.1, v.2.2.2.2.2.2.2.2.2.1, x1.2)) H := hP
            have hD : va_D A (mdW g a (x1.1, as1, v.2.2.1, v.2.2.2.1, v.2.2.2.2.1, v.2.2.2.2.2.1, v.2.2.2.2.2.2.1, v.2.2.2.2.2.2.2.1, v.2.2.2.2.2.2.2.2.1, v.2.2.2.2.2.2.2.2.2.1, x1.2)) := hD
            refine lv_if_eq (tgt := 44) hx hb dX5_cycle_37 (by decide) (fun c4 => ?_) (fun c4 => ?_)
            · have c4 := sp_b0.mp c4
              refine lv_iconst (v := (-1)) hx hb dX5_cycle_44 (by decide) ?_
              refine lv_istore_n (lv' := [(2, .int (-1)), (0, .ref a.1), (1, .int (nI mr)), (3, .int (nI cd))]) hx hb dX5_cycle_45 rfl hl (by decide) rfl (fun ls hl => ?_)
              refine lv_iinc (v := nI (cd + 1)) (lv' := [(3, .int (nI (cd + 1))), (2, .int (-1)), (0, .ref a.1), (1, .int (nI mr))]) hx hb dX5_cycle_46 hl (k := 3) rfl (nI_1 cd) (by decide) rfl (fun ls hl => ?_)
              refine lv_goto (tgt := 20) hx hb dX5_cycle_49 (by decide) ?_
              exact ih20 (cd + 1) (-1) x1.1 x1.2 _ _ _ (by omega) (by omega) (Or.inl ⟨rfl, by have h7 := hz.resolve_right (fun q => q.1 c3); rw [← h7.2, cyF_f (by omega) (hw1.1.symm.trans c4)]⟩) (hw1.2) (by omega) hP hD hS (lv_sub hl [2, 3, 1, 0] rfl)
            · have c4 := sp_b0n.mp c4
              refine lv_iload_n hx hb dX5_cycle_40 rfl (lv_at hl 3 rfl) ?_
              refine lv_goto (tgt := 45) hx hb dX5_cycle_41 (by decide) ?_
              refine lv_istore_n (lv' := [(2, .int (nI cd)), (0, .ref a.1), (1, .int (nI mr)), (3, .int (nI cd))]) hx hb dX5_cycle_45 rfl hl (by decide) rfl (fun ls hl => ?_)
              refine lv_iinc (v := nI (cd + 1)) (lv' := [(3, .int (nI (cd + 1))), (2, .int (nI cd)), (0, .ref a.1), (1, .int (nI mr))]) hx hb dX5_cycle_46 hl (k := 3) rfl (nI_1 cd) (by decide) rfl (fun ls hl => ?_)
              refine lv_goto (tgt := 20) hx hb dX5_cycle_49 (by decide) ?_
              exact ih20 (cd + 1) (nI cd) x1.1 x1.2 _ _ _ (by omega) (by omega) (Or.inr ⟨sp_ner (by omega), by have h7 := hz.resolve_right (fun q => q.1 c3); rw [← h7.2, cyF_t (by omega) (hw1.1.symm.trans c4)]⟩) (hw1.2) (by omega) hP hD hS (lv_sub hl [2, 3, 1, 0] rfl)
    exact hloop20 (_ + 1) 1 (-1) v.1 v.2.2.2.2.2.2.2.2.2.2 _ _ _ (by omega) (by omega) (Or.inl ⟨rfl, rfl⟩) (⟨hM.w, hM.m, hM.t, hM.r⟩) (Nat.lt_succ_self _) hP hD hS (lv_sub hl [2, 3, 1, 0] rfl)
  · have c1 := sp_b0.mp c1
    refine lv_ldc (v := (-1000000002)) hx hb hown (hts _ (List.mem_of_getElem? (i := 1) rfl)) dX5_cycle_9 ?_
    exact hend _ _ _ _ _ v dX5_cycle_11 (⟨(o_cycle_o (hbb.symm.trans c1)).symm, hX⟩) hP hD hS

