set_option maxHeartbeats 4000000 in
set_option maxRecDepth 100000 in
theorem c_X5_shares (l : Launch) (g : sp_G) (a : sp_A9) (v : sp_V) (t : sp_T) (hM : sp_Rm v.1 t) (hI : sp_I t) (i : Nat) (hi : i < tn t) (q : Int32) : sp_CV l g yX5_shares wsX5_shares ({ frames := 4, cells := 0, slots := 0, locals := 86 }) [.ref a.1, .int (nI i), .int q] (mdW g a v) (fun x : (Nat → Int32) × (Nat → Int32) => sp_Rm x.1 (sp_shr t i q)) (fun x => mdW g a (x.1, v.2.1, v.2.2.1, v.2.2.2.1, v.2.2.2.2.1, v.2.2.2.2.2.1, v.2.2.2.2.2.2.1, v.2.2.2.2.2.2.2.1, v.2.2.2.2.2.2.2.2.1, v.2.2.2.2.2.2.2.2.2.1, x.2)) := by
  refine sp_CV.of (cc := cX5_shares) (maxL := 9) (by decide) rfl (Nat.le_of_ble_eq_true rfl) ?_
  intro p e s m below meth c Q A ls SF hK hP hD hA hl hend
  have hx := SF.1
  have hb := SF.2.1
  have hown : s.vm.findClass RX5 = some m.cls := SF.2.2.2.1
  have hts := SF.2.2.2.2
  have hS : va_S A s.heap s.heap [] := va_S.rf
  have inX5 : ∀ w ∈ wsX50, w ∈ wsX5_shares := fun w h => List.mem_cons_of_mem _ (List.mem_append_right _ h)
  have hl : lv_has ls 9 [(0, .ref a.1), (1, .int (nI i)), (2, .int q)] := hl
  have hn8 := hI.n
  refine lv_aload_n hx hb dX5_shares_0 rfl (lv_at hl 0 rfl) ?_
  refine lv_iload_n hx hb dX5_shares_1 rfl (lv_at hl 1 rfl) ?_
  refine sp_vi0 (n := 1) SF hK hA (c_X5_isGrounded l g a v t hM hI i hi) gX5_shares_X5_isGrounded rfl rfl rfl (by decide +kernel) rfl ⟨Nat.le_of_ble_eq_true rfl, Nat.le_of_ble_eq_true rfl⟩ 5 0 rfl rfl hP hD hS hl.1 rfl (Nat.le_of_ble_eq_true rfl) dX5_shares_2 (fun r9 u9 H locs hbb hP hD hS => ?_)
  obtain ⟨bb, rfl, hbb⟩ := hbb
  have hP : va_P g.1 vwCl (mdW g a v) H := hP
  have hD : va_D A (mdW g a v) := hD
  refine lv_if_eq (tgt := 9) hx hb dX5_shares_5 (by decide) (fun c1 => ?_) (fun c1 => ?_)
  · have c1 := sp_b0.mp c1
    have hgr : sp_gr t i = false := hbb.symm.trans c1
    have hlw := sp_low_le t i
    have hge := sp_le_hi t i
    have hlt := sp_hi_lt hi
    have hr2 := hI.r
    refine lv_aload_n hx hb dX5_shares_9 rfl (lv_at hl 0 rfl) ?_
    refine lv_iload_n hx hb dX5_shares_10 rfl (lv_at hl 1 rfl) ?_
    refine sp_vi0 (n := 1) SF hK hA (c_X5_lowest l g a v t hM hI i hi) gX5_shares_X5_lowest rfl rfl rfl (by decide +kernel) rfl ⟨Nat.le_of_ble_eq_true rfl, Nat.le_of_ble_eq_true rfl⟩ 5 0 rfl rfl hP hD hS hl.1 rfl (Nat.le_of_ble_eq_true rfl) dX5_shares_11 (fun r9 u9 H locs w1 hP hD hS => ?_)
    subst w1
    have hP : va_P g.1 vwCl (mdW g a v) H := hP
    have hD : va_D A (mdW g a v) := hD
    refine lv_istore_n (lv' := [(3, .int (nI (sp_low t i))), (0, .ref a.1), (1, .int (nI i)), (2, .int q)]) hx hb dX5_shares_14 rfl hl (by decide) rfl (fun ls hl => ?_)
    refine lv_aload_n hx hb dX5_shares_15 rfl (lv_at hl 1 rfl) ?_
    refine lv_iload_n hx hb dX5_shares_16 rfl (lv_at hl 2 rfl) ?_
    refine sp_vi0 (n := 1) SF hK hA (c_X5_highest l g a v t hM hI i hi) gX5_shares_X5_highest rfl rfl rfl (by decide +kernel) rfl ⟨Nat.le_of_ble_eq_true rfl, Nat.le_of_ble_eq_true rfl⟩ 5 0 rfl rfl hP hD hS hl.1 rfl (Nat.le_of_ble_eq_true rfl) dX5_shares_17 (fun r9 u9 H locs w2 hP hD hS => ?_)
    subst w2
    have hP : va_P g.1 vwCl (mdW g a v) H := hP
    have hD : va_D A (mdW g a v) := hD
    refine lv_istore (lv' := [(4, .int (nI (sp_hi t i))), (3, .int (nI (sp_low t i))), (0, .ref a.1), (1, .int (nI i)), (2, .int q)]) hx hb dX5_shares_20 hl (by decide) rfl (fun ls hl => ?_)
    refine lv_iconst (v := nI 0) hx hb dX5_shares_22 (by decide) ?_
    refine lv_istore (lv' := [(5, .int (nI 0)), (4, .int (nI (sp_hi t i))), (3, .int (nI (sp_low t i))), (0, .ref a.1), (1, .int (nI i)), (2, .int q)]) hx hb dX5_shares_23 hl (by decide) rfl (fun ls hl => ?_)
    refine lv_iload_n hx hb dX5_shares_25 rfl (lv_at hl 2 rfl) ?_
    refine lv_istore (lv' := [(6, .int (nI (sp_low t i))), (5, .int (nI 0)), (4, .int (nI (sp_hi t i))), (3, .int (nI (sp_low t i))), (0, .ref a.1), (1, .int (nI i)), (2, .int q)]) hx hb dX5_shares_26 hl (by decide) rfl (fun ls hl => ?_)
    have hloop28 : ∀ (n28 : Nat) (k : Nat) (al : Nat) (pf : Nat → Int32) (H : Heap) (locs : List Loc) (ls : Array Slot), (sp_low t i ≤ k) → (k ≤ sp_hi t i + 1) → (∀ j, sp_low t i ≤ j → j < k → pf j = nI (sp_prt t j)) → (lp (sp_als (sp_prt t)) (sp_hi t i + 1 - k) k al = sp_al0 t (sp_low t i) (sp_hi t i)) → (al ≤ 200000 * k) → sp_hi t i + 1 - k < n28 → va_P g.1 vwCl (mdW g a (v.1, v.2.1, v.2.2.1, v.2.2.2.1, v.2.2.2.2.1, v.2.2.2.2.2.1, v.2.2.2.2.2.2.1, v.2.2.2.2.2.2.2.1, v.2.2.2.2.2.2.2.2.1, v.2.2.2.2.2.2.2.2.2.1, pf)) H → va_D A (mdW g a (v.1, v.2.1, v.2.2.1, v.2.2.2.1, v.2.2.2.2.1, v.2.2.2.2.2.1, v.2.2.2.2.2.2.1, v.2.2.2.2.2.2.2.1, v.2.2.2.2.2.2.2.2.1, v.2.2.2.2.2.2.2.2.2.1, pf)) → va_S A s.heap H locs → lv_has ls 9 [(0, .ref a.1), (1, .int (nI i)), (2, .int q), (3, .int (nI (sp_low t i))), (4, .int (nI (sp_hi t i))), (5, .int (nI al)), (6, .int (nI k))] → W p l e ({ frames := 4, cells := 0, slots := 0, locals := 86 }) s m ([.ref a.1, .int (nI i), .int q] : List Value).toArray below meth c H locs 0 0 Q (F0 m 28 ls []) := by
      intro n28
      induction n28 with
      | zero =>
        intro k al pf H locs ls hk1 hk2 hpf hal hab h9
        exact absurd h9 (Nat.not_lt_zero _)
      | succ n28 ih28 =>
        intro k al pf H locs ls hk1 hk2 hpf hal hab hm28 hP hD hS hl
        have hpk := sp_prt_le hI k
        have hak := sp_age_le hI k
        refine lv_iload hx hb dX5_shares_28 (lv_at hl 6 rfl) ?_
        refine lv_iload hx hb dX5_shares_30 (lv_at hl 4 rfl) ?_
        refine lv_icmp_gt (tgt := 111) hx hb dX5_shares_32 (by decide) (fun c4 => ?_) (fun c4 => ?_)
        · have c4 := (nI_ltI (by omega) (by omega)).mp c4
          have hal2 : sp_al0 t (sp_low t i) (sp_hi t i) = al := by rw [← hal, lp_end _ (by omega)]
          have halb := sp_al0_le hI (lo := sp_low t i) (hi := sp_hi t i) (by omega)
          have hj158 : ∀ (pf : Nat → Int32) (H : Heap) (locs : List Loc) (ls : Array Slot), (∀ j, sp_low t i ≤ j → j ≤ sp_hi t i → pf j = nI ((sp_P t (sp_low t i) (sp_hi t i)) j)) → va_P g.1 vwCl (mdW g a (v.1, v.2.1, v.2.2.1, v.2.2.2.1, v.2.2.2.2.1, v.2.2.2.2.2.1, v.2.2.2.2.2.2.1, v.2.2.2.2.2.2.2.1, v.2.2.2.2.2.2.2.2.1, v.2.2.2.2.2.2.2.2.2.1, pf)) H → va_D A (mdW g a (v.1, v.2.1, v.2.2.1, v.2.2.2.1, v.2.2.2.2.1, v.2.2.2.2.2.1, v.2.2.2.2.2.2.1, v.2.2.2.2.2.2.2.1, v.2.2.2.2.2.2.2.2.1, v.2.2.2.2.2.2.2.2.2.1, pf)) → va_S A s.heap H locs → lv_has ls 9 [(0, .ref a.1), (1, .int (nI i)), (2, .int q), (3, .int (nI (sp_low t i))), (4, .int (nI (sp_hi t i))), (5, .int (nI (sp_al t (sp_low t i) (sp_hi t i))))] → W p l e ({ frames := 4, cells := 0, slots := 0, locals := 86 }) s m ([.ref a.1, .int (nI i), .int q] : List Value).toArray below meth c H locs 0 0 Q (F0 m 158 ls []) := by
            intro pf H locs ls hpf hP hD hS hl
            refine lv_iload_n hx hb dX5_shares_158 rfl (lv_at hl 2 rfl) ?_
            refine lv_istore (lv' := [(6, .int q), (0, .ref a.1), (1, .int (nI i)), (2, .int q), (3, .int (nI (sp_low t i))), (4, .int (nI (sp_hi t i))), (5, .int (nI (sp_al t (sp_low t i) (sp_hi t i))))]) hx hb dX5_shares_159 hl (by decide) rfl (fun ls hl => ?_)
            refine lv_iload_n hx hb dX5_shares_161 rfl (lv_at hl 4 rfl) ?_
            refine lv_istore (lv' := [(7, .int (nI (sp_low t i))), (6, .int q), (0, .ref a.1), (1, .int (nI i)), (2, .int q), (3, .int (nI (sp_low t i))), (4, .int (nI (sp_hi t i))), (5, .int (nI (sp_al t (sp_low t i) (sp_hi t i))))]) hx hb dX5_shares_162 hl (by decide) rfl (fun ls hl => ?_)
            have hloop164 : ∀ (n164 : Nat) (k : Nat) (h : Nat → Int32) (L : Nat → Int32) (x : Int32) (H : Heap) (locs : List Loc) (ls : Array Slot), (sp_low t i ≤ k) → (k ≤ sp_hi t i + 1) → (sp_Rm h (sp_setlo t L)) → (lp (sp_s1 q (sp_P t (sp_low t i) (sp_hi t i)) (sp_al t (sp_low t i) (sp_hi t i))) (sp_hi t i + 1 - k) k (L, x) = sp_sh1 t (sp_low t i) (sp_hi t i) q) → sp_hi t i + 1 - k < n164 → va_P g.1 vwCl (mdW g a (h, v.2.1, v.2.2.1, v.2.2.2.1, v.2.2.2.2.1, v.2.2.2.2.2.1, v.2.2.2.2.2.2.1, v.2.2.2.2.2.2.2.1, v.2.2.2.2.2.2.2.2.1, v.2.2.2.2.2.2.2.2.2.1, pf)) H → va_D A (mdW g a (h, v.2.1, v.2.2.1, v.2.2.2.1, v.2.2.2.2.1, v.2.2.2.2.2.1, v.2.2.2.2.2.2.1, v.2.2.2.2.2.2.2.1, v.2.2.2.2.2.2.2.2.1, v.2.2.2.2.2.2.2.2.2.1, pf)) → va_S A s.heap H locs → lv_has ls 9 [(0, .ref a.1), (2, .int q), (3, .int (nI (sp_low t i))), (4, .int (nI (sp_hi t i))), (5, .int (nI (sp_al t (sp_low t i) (sp_hi t i)))), (6, .int x), (7, .int (nI k))] → W p l e ({ frames := 4, cells := 0, slots := 0, locals := 86 }) s m ([.ref a.1, .int (nI i), .int q] : List Value).toArray below meth c H locs 0 0 Q (F0 m 164 ls []) := by
              intro n164
              induction n164 with
              | zero =>
                intro k h L x H locs ls hk1 hk2 hM2 hh h9
                exact absurd h9 (Nat.not_lt_zero _)
              | succ n164 ih164 =>
                intro k h L x H locs ls hk1 hk2 hM2 hh hm164 hP hD hS hl
                refine lv_iload hx hb dX5_shares_164 (lv_at hl 6 rfl) ?_
                refine lv_iload hx hb dX5_shares_166 (lv_at hl 3 rfl) ?_
                refine lv_icmp_gt (tgt := 219) hx hb dX5_shares_168 (by decide) (fun c6 => ?_) (fun c6 => ?_)
                · have c6 := (nI_ltI (by omega) (by omega)).mp c6
                  refine lv_iload hx hb dX5_shares_219 (lv_at hl 5 rfl) ?_
                  have hfx : (L, x) = sp_sh1 t (sp_low t i) (sp_hi t i) q := by rw [← hh, lp_end _ (by omega)]
                  refine lv_if_eq (tgt := 298) hx hb dX5_shares_221 (by decide) (fun cw => ?_) (fun cw => ?_)
                  · have hfin : (L, x) = sp_sh2 t (sp_low t i) (sp_hi t i) q := by unfold sp_sh2; rw [← hfx, cw, sp_s2_0]
                    have hMf := hM2
                    exact hend _ _ _ _ (h, pf) dX5_shares_298 (sp_Rm_shr hgr hMf hfin) hP hD hS
                  · refine lv_iload_n hx hb dX5_shares_224 rfl (lv_at hl 2 rfl) ?_
                    refine lv_istore (lv' := [(7, .int (nI (sp_low t i))), (0, .ref a.1), (2, .int q), (3, .int (nI (sp_low t i))), (4, .int (nI (sp_hi t i))), (5, .int (nI (sp_al t (sp_low t i) (sp_hi t i)))), (6, .int x)]) hx hb dX5_shares_225 hl (by decide) rfl (fun ls hl => ?_)
                    have hloop227 : ∀ (n227 : Nat) (k : Nat) (h2 : Nat → Int32) (L2 : Nat → Int32) (x2 : Int32) (H : Heap) (locs : List Loc) (ls : Array Slot), (sp_low t i ≤ k) → (k ≤ sp_hi t i + 1) → (sp_Rm h2 (sp_setlo t L2)) → (lp (sp_s2 (sp_P t (sp_low t i) (sp_hi t i))) (sp_hi t i + 1 - k) k (L2, x2) = sp_sh2 t (sp_low t i) (sp_hi t i) q) → sp_hi t i + 1 - k < n227 → va_P g.1 vwCl (mdW g a (h2, v.2.1, v.2.2.1, v.2.2.2.1, v.2.2.2.2.1, v.2.2.2.2.2.1, v.2.2.2.2.2.2.1, v.2.2.2.2.2.2.2.1, v.2.2.2.2.2.2.2.2.1, v.2.2.2.2.2.2.2.2.2.1, pf)) H → va_D A (mdW g a (h2, v.2.1, v.2.2.1, v.2.2.2.1, v.2.2.2.2.1, v.2.2.2.2.2.1, v.2.2.2.2.2.2.1, v.2.2.2.2.2.2.2.1, v.2.2.2.2.2.2.2.2.1, v.2.2.2.2.2.2.2.2.2.1, pf)) → va_S A s.heap H locs → lv_has ls 9 [(0, .ref a.1), (2, .int q), (3, .int (nI (sp_low t i))), (4, .int (nI (sp_hi t i))), (6, .int x2), (7, .int (nI k))] → W p l e ({ frames := 4, cells := 0, slots := 0, locals := 86 }) s m ([.ref a.1, .int (nI i), .int q] : List Value).toArray below meth c H locs 0 0 Q (F0 m 227 ls []) := by
                      intro n227
                      induction n227 with
                      | zero =>
                        intro k h2 L2 x2 H locs ls hk3 hk4 hM3 hh2 h9
                        exact absurd h9 (Nat.not_lt_zero _)
                      | succ n227 ih227 =>
                        intro k h2 L2 x2 H locs ls hk3 hk4 hM3 hh2 hm227 hP hD hS hl
                        refine lv_iload hx hb dX5_shares_227 (lv_at hl 5 rfl) ?_
                        refine lv_iload hx hb dX5_shares_229 (lv_at hl 3 rfl) ?_
                        refine lv_icmp_gt (tgt := 295) hx hb dX5_shares_231 (by decide) (fun c10 => ?_) (fun c10 => ?_)
                        · have c10 := (nI_ltI (by omega) (by omega)).mp c10
                          have hfin2 : (L2, x2) = sp_sh2 t (sp_low t i) (sp_hi t i) q := by rw [← hh2, lp_end _ (by omega)]
                          refine lv_goto (tgt := 219) hx hb dX5_shares_295 (by decide) ?_
                          refine lv_iload hx hb dX5_shares_219 (lv_at hl 4 rfl) ?_
                          have hx20 : x2 = 0 := by have h5 := sp_sh_end hI (lo := sp_low t i) (hi := sp_hi t i) (by omega) (by omega) q; rw [← hfin2] at h5; exact h5
                          refine lv_if_eq (tgt := 298) hx hb dX5_shares_221 (by decide) (fun cw2 => ?_) (fun cw2 => ?_)
                          · have hfin := hfin2
                            have hMf := hM3
                            exact hend _ _ _ _ (h2, pf) dX5_shares_298 (sp_Rm_shr hgr hMf hfin) hP hD hS
                          · exact absurd hx20 cw2
                        · have c10 := mt (nI_ltI (by omega) (by omega)).mpr c10
                          refine lv_iload hx hb dX5_shares_234 (lv_at hl 4 rfl) ?_
                          refine lv_if_eq (tgt := 295) hx hb dX5_shares_236 (by decide) (fun c7 => ?_) (fun c7 => ?_)
                          · have hfin2 : (L2, x2) = sp_sh2 t (sp_low t i) (sp_hi t i) q := by rw [← hh2, c7, sp_s2_0]
                            refine lv_goto (tgt := 219) hx hb dX5_shares_295 (by decide) ?_
                            refine lv_iload hx hb dX5_shares_219 (lv_at hl 4 rfl) ?_
                            have hx20 : x2 = 0 := by have h5 := sp_sh_end hI (lo := sp_low t i) (hi := sp_hi t i) (by omega) (by omega) q; rw [← hfin2] at h5; exact h5
                            refine lv_if_eq (tgt := 298) hx hb dX5_shares_221 (by decide) (fun cw2 => ?_) (fun cw2 => ?_)
                            · have hfin := hfin2
                              have hMf := hM3
                              exact hend _ _ _ _ (h2, pf) dX5_shares_298 (sp_Rm_shr hgr hMf hfin) hP hD hS
                            · exact absurd hx20 cw2
                          · refine lv_aload_n hx hb dX5_shares_239 rfl (lv_at hl 0 rfl) ?_
                            refine va_get (D := g.1) (ci := 5) (v := .ref a.2.2.2.2.2.2.2.2) (C := RX5) (T := TX5) (N := 11) hx hb hts inX5 hown hK.1 hP 0 rfl rfl 10 (by decide) (hts _ (List.mem_of_getElem? (i := 1) rfl)) (fun _ h9 => h9) rfl dX5_shares_240 ?_
                            refine lv_iload hx hb dX5_shares_243 (lv_at hl 5 rfl) ?_
                            refine va_iald hx hb hK.1 hP 8 0 rfl rfl (vp_in_nI (by omega) (by omega)) dX5_shares_245 ?_
                            refine sp_top (y := pf k) (congrArg pf (sp_c8 (k := k) (by omega))) ?_
                            refine sp_top (y := nI ((sp_P t (sp_low t i) (sp_hi t i)) k)) (hpf k hk3 (by omega)) ?_
                            refine lv_if_ne (tgt := 253) hx hb dX5_shares_246 (by decide) (fun c8 => ?_) (fun c8 => ?_)
                            · have c8 := mt (sp_z_eq (Nat.lt_of_le_of_lt (sp_P_le hI _ _ k) (by omega))).mpr c8
                              refine lv_iload hx hb dX5_shares_253 (lv_at hl 4 rfl) ?_
                              refine lv_if_le (tgt := 262) hx hb dX5_shares_255 (by decide) (fun c9 => ?_) (fun c9 => ?_)
                              · refine lv_iconst (v := (-1)) hx hb dX5_shares_262 (by decide) ?_
                                refine sp_top (y := sp_sg x2) (sp_sg_le c7 c9) ?_
                                refine lv_istore (lv' := [(8, .int (sp_sg x2)), (0, .ref a.1), (2, .int q), (3, .int (nI (sp_low t i))), (4, .int (nI (sp_hi t i))), (6, .int x2), (7, .int (nI k))]) hx hb dX5_shares_263 hl (by decide) rfl (fun ls hl => ?_)
                                refine lv_aload_n hx hb dX5_shares_265 rfl (lv_at hl 1 rfl) ?_
                                refine lv_iload hx hb dX5_shares_266 (lv_at hl 6 rfl) ?_
                                refine lv_iconst (v := nI 2) hx hb dX5_shares_268 (by decide) ?_
                                refine lv_aload_n hx hb dX5_shares_269 rfl (lv_at hl 1 rfl) ?_
                                refine lv_iload hx hb dX5_shares_270 (lv_at hl 6 rfl) ?_
                                refine lv_iconst (v := nI 2) hx hb dX5_shares_272 (by decide) ?_
                                refine sp_vi0 (n := 2) SF hK hA (c_X5_of l g a (h2, v.2.1, v.2.2.1, v.2.2.2.1, v.2.2.2.2.1, v.2.2.2.2.2.1, v.2.2.2.2.2.2.1, v.2.2.2.2.2.2.2.1, v.2.2.2.2.2.2.2.2.1, v.2.2.2.2.2.2.2.2.2.1, pf) k 2 (by omega) (by omega)) gX5_shares_X5_of rfl rfl rfl (by decide +kernel) rfl ⟨Nat.le_of_ble_eq_true rfl, Nat.le_of_ble_eq_true rfl⟩ 5 0 rfl rfl hP hD hS hl.1 rfl (Nat.le_of_ble_eq_true rfl) dX5_shares_273 (fun r9 u9 H locs w3 hP hD hS => ?_)
                                subst w3
                                refine sp_top (y := L2 k) (hM3.lo (show k < tn t by omega)) ?_
                                have hP : va_P g.1 vwCl (mdW g a (h2, v.2.1, v.2.2.1, v.2.2.2.1, v.2.2.2.2.1, v.2.2.2.2.2.1, v.2.2.2.2.2.2.1, v.2.2.2.2.2.2.2.1, v.2.2.2.2.2.2.2.2.1, v.2.2.2.2.2.2.2.2.2.1, pf)) H := hP
                                have hD : va_D A (mdW g a (h2, v.2.1, v.2.2.1, v.2.2.2.1, v.2.2.2.2.1, v.2.2.2.2.2.1, v.2.2.2.2.2.2.1, v.2.2.2.2.2.2.2.1, v.2.2.2.2.2.2.2.2.1, v.2.2.2.2.2.2.2.2.2.1, pf)) := hD
                                refine lv_iload hx hb dX5_shares_276 (lv_at hl 0 rfl) ?_
                                refine lv_iadd hx hb dX5_shares_278 ?_
                                refine sp_vv0 (n := 3) SF hK hA (c_X5_put l g a (h2, v.2.1, v.2.2.1, v.2.2.2.1, v.2.2.2.2.1, v.2.2.2.2.2.1, v.2.2.2.2.2.2.1, v.2.2.2.2.2.2.2.1, v.2.2.2.2.2.2.2.2.1, v.2.2.2.2.2.2.2.2.2.1, pf) k 2 (by omega) (by omega) ((L2 k) + (sp_sg x2))) gX5_shares_X5_put rfl rfl rfl (by decide +kernel) rfl ⟨Nat.le_of_ble_eq_true rfl, Nat.le_of_ble_eq_true rfl⟩ 5 0 rfl rfl hP hD hS hl.1 rfl (Nat.le_of_ble_eq_true rfl) dX5_shares_279 (fun u9 H locs w4 hP hD hS => ?_)
                                have hP : va_P g.1 vwCl (mdW g a ((upd h2 (6 + 4 * k + 2) ((L2 k) + (sp_sg x2))), v.2.1, v.2.2.1, v.2.2.2.1, v.2.2.2.2.1, v.2.2.2.2.2.1, v.2.2.2.2.2.2.1, v.2.2.2.2.2.2.2.1, v.2.2.2.2.2.2.2.2.1, v.2.2.2.2.2.2.2.2.2.1, pf)) H := hP
                                have hD : va_D A (mdW g a ((upd h2 (6 + 4 * k + 2) ((L2 k) + (sp_sg x2))), v.2.1, v.2.2.1, v.2.2.2.1, v.2.2.2.2.1, v.2.2.2.2.2.1, v.2.2.2.2.2.2.1, v.2.2.2.2.2.2.2.1, v.2.2.2.2.2.2.2.2.1, v.2.2.2.2.2.2.2.2.2.1, pf)) := hD
                                refine lv_iload hx hb dX5_shares_282 (lv_at hl 5 rfl) ?_
                                refine lv_iload hx hb dX5_shares_284 (lv_at hl 0 rfl) ?_
                                refine lv_isub hx hb dX5_shares_286 ?_
                                refine lv_istore (lv' := [(6, .int (x2 - (sp_sg x2))), (8, .int (sp_sg x2)), (0, .ref a.1), (2, .int q), (3, .int (nI (sp_low t i))), (4, .int (nI (sp_hi t i))), (7, .int (nI k))]) hx hb dX5_shares_287 hl (by decide) rfl (fun ls hl => ?_)
                                refine lv_iinc (v := nI (k + 1)) (lv' := [(7, .int (nI (k + 1))), (6, .int (x2 - (sp_sg x2))), (8, .int (sp_sg x2)), (0, .ref a.1), (2, .int q), (3, .int (nI (sp_low t i))), (4, .int (nI (sp_hi t i)))]) hx hb dX5_shares_289 hl (k := 6) rfl (nI_1 k) (by decide) rfl (fun ls hl => ?_)
                                refine lv_goto (tgt := 227) hx hb dX5_shares_292 (by decide) ?_
                                exact ih227 (k + 1) (upd h2 (6 + 4 * k + 2) (L2 k + sp_sg x2)) (upd L2 k (L2 k + sp_sg x2)) (x2 - sp_sg x2) _ _ _ (by omega) (by omega) (sp_Rm_lo hM3 k _) (by rw [← hh2, lp_step (sp_s2 (sp_P t (sp_low t i) (sp_hi t i))) (show k < sp_hi t i + 1 by omega), sp_s2_p1 c8 c7 rfl]) (by omega) hP hD hS (lv_sub hl [3, 4, 5, 6, 1, 0] rfl)
                              · refine lv_iconst (v := nI 1) hx hb dX5_shares_258 (by decide) ?_
                                refine lv_goto (tgt := 263) hx hb dX5_shares_259 (by decide) ?_
                                refine sp_top (y := sp_sg x2) (sp_sg_gt c9) ?_
                                refine lv_istore (lv' := [(8, .int (sp_sg x2)), (0, .ref a.1), (2, .int q), (3, .int (nI (sp_low t i))), (4, .int (nI (sp_hi t i))), (6, .int x2), (7, .int (nI k))]) hx hb dX5_shares_263 hl (by decide) rfl (fun ls hl => ?_)
                                refine lv_aload_n hx hb dX5_shares_265 rfl (lv_at hl 1 rfl) ?_
                                refine lv_iload hx hb dX5_shares_266 (lv_at hl 6 rfl) ?_
                                refine lv_iconst (v := nI 2) hx hb dX5_shares_268 (by decide) ?_
                                refine lv_aload_n hx hb dX5_shares_269 rfl (lv_at hl 1 rfl) ?_
                                refine lv_iload hx hb dX5_shares_270 (lv_at hl 6 rfl) ?_
                                refine lv_iconst (v := nI 2) hx hb dX5_shares_272 (by decide) ?_
                                refine sp_vi0 (n := 2) SF hK hA (c_X5_of l g a (h2, v.2.1, v.2.2.1, v.2.2.2.1, v.2.2.2.2.1, v.2.2.2.2.2.1, v.2.2.2.2.2.2.1, v.2.2.2.2.2.2.2.1, v.2.2.2.2.2.2.2.2.1, v.2.2.2.2.2.2.2.2.2.1, pf) k 2 (by omega) (by omega)) gX5_shares_X5_of rfl rfl rfl (by decide +kernel) rfl ⟨Nat.le_of_ble_eq_true rfl, Nat.le_of_ble_eq_true rfl⟩ 5 0 rfl rfl hP hD hS hl.1 rfl (Nat.le_of_ble_eq_true rfl) dX5_shares_273 (fun r9 u9 H locs w5 hP hD hS => ?_)
                                subst w5
                                refine sp_top (y := L2 k) (hM3.lo (show k < tn t by omega)) ?_
                                have hP : va_P g.1 vwCl (mdW g a (h2, v.2.1, v.2.2.1, v.2.2.2.1, v.2.2.2.2.1, v.2.2.2.2.2.1, v.2.2.2.2.2.2.1, v.2.2.2.2.2.2.2.1, v.2.2.2.2.2.2.2.2.1, v.2.2.2.2.2.2.2.2.2.1, pf)) H := hP
                                have hD : va_D A (mdW g a (h2, v.2.1, v.2.2.1, v.2.2.2.1, v.2.2.2.2.1, v.2.2.2.2.2.1, v.2.2.2.2.2.2.1, v.2.2.2.2.2.2.2.1, v.2.2.2.2.2.2.2.2.1, v.2.2.2.2.2.2.2.2.2.1, pf)) := hD
                                refine lv_iload hx hb dX5_shares_276 (lv_at hl 0 rfl) ?_
                                refine lv_iadd hx hb dX5_shares_278 ?_
                                refine sp_vv0 (n := 3) SF hK hA (c_X5_put l g a (h2, v.2.1, v.2.2.1, v.2.2.2.1, v.2.2.2.2.1, v.2.2.2.2.2.1, v.2.2.2.2.2.2.1, v.2.2.2.2.2.2.2.1, v.2.2.2.2.2.2.2.2.1, v.2.2.2.2.2.2.2.2.2.1, pf) k 2 (by omega) (by omega) ((L2 k) + (sp_sg x2))) gX5_shares_X5_put rfl rfl rfl (by decide +kernel) rfl ⟨Nat.le_of_ble_eq_true rfl, Nat.le_of_ble_eq_true rfl⟩ 5 0 rfl rfl hP hD hS hl.1 rfl (Nat.le_of_ble_eq_true rfl) dX5_shares_279 (fun u9 H locs w6 hP hD hS => ?_)
                                have hP : va_P g.1 vwCl (mdW g a ((upd h2 (6 + 4 * k + 2) ((L2 k) + (sp_sg x2))), v.2.1, v.2.2.1, v.2.2.2.1, v.2.2.2.2.1, v.2.2.2.2.2.1, v.2.2.2.2.2.2.1, v.2.2.2.2.2.2.2.1, v.2.2.2.2.2.2.2.2.1, v.2.2.2.2.2.2.2.2.2.1, pf)) H := hP
                                have hD : va_D A (mdW g a ((upd h2 (6 + 4 * k + 2) ((L2 k) + (sp_sg x2))), v.2.1, v.2.2.1, v.2.2.2.1, v.2.2.2.2.1, v.2.2.2.2.2.1, v.2.2.2.2.2.2.1, v.2.2.2.2.2.2.2.1, v.2.2.2.2.2.2.2.2.1, v.2.2.2.2.2.2.2.2.2.1, pf)) := hD
                                refine lv_iload hx hb dX5_shares_282 (lv_at hl 5 rfl) ?_
                                refine lv_iload hx hb dX5_shares_284 (lv_at hl 0 rfl) ?_
                                refine lv_isub hx hb dX5_shares_286 ?_
                                refine lv_istore (lv' := [(6, .int (x2 - (sp_sg x2))), (8, .int (sp_sg x2)), (0, .ref a.1), (2, .int q), (3, .int (nI (sp_low t i))), (4, .int (nI (sp_hi t i))), (7, .int (nI k))]) hx hb dX5_shares_287 hl (by decide) rfl (fun ls hl => ?_)
                                refine lv_iinc (v := nI (k + 1)) (lv' := [(7, .int (nI (k + 1))), (6, .int (x2 - (sp_sg x2))), (8, .int (sp_sg x2)), (0, .ref a.1), (2, .int q), (3, .int (nI (sp_low t i))), (4, .int (nI (sp_hi t i)))]) hx hb dX5_shares_289 hl (k := 6) rfl (nI_1 k) (by decide) rfl (fun ls hl => ?_)
                                refine lv_goto (tgt := 227) hx hb dX5_shares_292 (by decide) ?_
                                exact ih227 (k + 1) (upd h2 (6 + 4 * k + 2) (L2 k + sp_sg x2)) (upd L2 k (L2 k + sp_sg x2)) (x2 - sp_sg x2) _ _ _ (by omega) (by omega) (sp_Rm_lo hM3 k _) (by rw [← hh2, lp_step (sp_s2 (sp_P t (sp_low t i) (sp_hi t i))) (show k < sp_hi t i + 1 by omega), sp_s2_p1 c8 c7 rfl]) (by omega) hP hD hS (lv_sub hl [3, 4, 5, 6, 1, 0] rfl)
                            · have c8 := (sp_z_eq (Nat.lt_of_le_of_lt (sp_P_le hI _ _ k) (by omega))).mp c8
                              refine lv_iconst (v := nI 0) hx hb dX5_shares_249 (by decide) ?_
                              refine lv_goto (tgt := 263) hx hb dX5_shares_250 (by decide) ?_
                              refine lv_istore (lv' := [(8, .int (nI 0)), (0, .ref a.1), (2, .int q), (3, .int (nI (sp_low t i))), (4, .int (nI (sp_hi t i))), (6, .int x2), (7, .int (nI k))]) hx hb dX5_shares_263 hl (by decide) rfl (fun ls hl => ?_)
                              refine lv_aload_n hx hb dX5_shares_265 rfl (lv_at hl 1 rfl) ?_
                              refine lv_iload hx hb dX5_shares_266 (lv_at hl 6 rfl) ?_
                              refine lv_iconst (v := nI 2) hx hb dX5_shares_268 (by decide) ?_
                              refine lv_aload_n hx hb dX5_shares_269 rfl (lv_at hl 1 rfl) ?_
                              refine lv_iload hx hb dX5_shares_270 (lv_at hl 6 rfl) ?_
                              refine lv_iconst (v := nI 2) hx hb dX5_shares_272 (by decide) ?_
                              refine sp_vi0 (n := 2) SF hK hA (c_X5_of l g a (h2, v.2.1, v.2.2.1, v.2.2.2.1, v.2.2.2.2.1, v.2.2.2.2.2.1, v.2.2.2.2.2.2.1, v.2.2.2.2.2.2.2.1, v.2.2.2.2.2.2.2.2.1, v.2.2.2.2.2.2.2.2.2.1, pf) k 2 (by omega) (by omega)) gX5_shares_X5_of rfl rfl rfl (by decide +kernel) rfl ⟨Nat.le_of_ble_eq_true rfl, Nat.le_of_ble_eq_true rfl⟩ 5 0 rfl rfl hP hD hS hl.1 rfl (Nat.le_of_ble_eq_true rfl) dX5_shares_273 (fun r9 u9 H locs w7 hP hD hS => ?_)
                              subst w7
                              refine sp_top (y := L2 k) (hM3.lo (show k < tn t by omega)) ?_
                              have hP : va_P g.1 vwCl (mdW g a (h2, v.2.1, v.2.2.1, v.2.2.2.1, v.2.2.2.2.1, v.2.2.2.2.2.1, v.2.2.2.2.2.2.1, v.2.2.2.2.2.2.2.1, v.2.2.2.2.2.2.2.2.1, v.2.2.2.2.2.2.2.2.2.1, pf)) H := hP
                              have hD : va_D A (mdW g a (h2, v.2.1, v.2.2.1, v.2.2.2.1, v.2.2.2.2.1, v.2.2.2.2.2.1, v.2.2.2.2.2.2.1, v.2.2.2.2.2.2.2.1, v.2.2.2.2.2.2.2.2.1, v.2.2.2.2.2.2.2.2.2.1, pf)) := hD
                              refine lv_iload hx hb dX5_shares_276 (lv_at hl 0 rfl) ?_
                              refine lv_iadd hx hb dX5_shares_278 ?_
                              refine sp_top (y := L2 k) (sp_add0 _) ?_
                              refine sp_vv0 (n := 3) SF hK hA (c_X5_put l g a (h2, v.2.1, v.2.2.1, v.2.2.2.1, v.2.2.2.2.1, v.2.2.2.2.2.1, v.2.2.2.2.2.2.1, v.2.2.2.2.2.2.2.1, v.2.2.2.2.2.2.2.2.1, v.2.2.2.2.2.2.2.2.2.1, pf) k 2 (by omega) (by omega) (L2 k)) gX5_shares_X5_put rfl rfl rfl (by decide +kernel) rfl ⟨Nat.le_of_ble_eq_true rfl, Nat.le_of_ble_eq_true rfl⟩ 5 0 rfl rfl hP hD hS hl.1 rfl (Nat.le_of_ble_eq_true rfl) dX5_shares_279 (fun u9 H locs w8 hP hD hS => ?_)
                              have hP : va_P g.1 vwCl (mdW g a ((upd h2 (6 + 4 * k + 2) (L2 k)), v.2.1, v.2.2.1, v.2.2.2.1, v.2.2.2.2.1, v.2.2.2.2.2.1, v.2.2.2.2.2.2.1, v.2.2.2.2.2.2.2.1, v.2.2.2.2.2.2.2.2.1, v.2.2.2.2.2.2.2.2.2.1, pf)) H := hP
                              have hD : va_D A (mdW g a ((upd h2 (6 + 4 * k + 2) (L2 k)), v.2.1, v.2.2.1, v.2.2.2.1, v.2.2.2.2.1, v.2.2.2.2.2.1, v.2.2.2.2.2.2.1, v.2.2.2.2.2.2.2.1, v.2.2.2.2.2.2.2.2.1, v.2.2.2.2.2.2.2.2.2.1, pf)) := hD
                              refine lv_iload hx hb dX5_shares_282 (lv_at hl 5 rfl) ?_
                              refine lv_iload hx hb dX5_shares_284 (lv_at hl 0 rfl) ?_
                              refine lv_isub hx hb dX5_shares_286 ?_
                              refine sp_top (y := x2) (sp_sub0 _) ?_
                              refine lv_istore (lv' := [(6, .int x2), (8, .int (nI 0)), (0, .ref a.1), (2, .int q), (3, .int (nI (sp_low t i))), (4, .int (nI (sp_hi t i))), (7, .int (nI k))]) hx hb dX5_shares_287 hl (by decide) rfl (fun ls hl => ?_)
                              refine lv_iinc (v := nI (k + 1)) (lv' := [(7, .int (nI (k + 1))), (6, .int x2), (8, .int (nI 0)), (0, .ref a.1), (2, .int q), (3, .int (nI (sp_low t i))), (4, .int (nI (sp_hi t i)))]) hx hb dX5_shares_289 hl (k := 6) rfl (nI_1 k) (by decide) rfl (fun ls hl => ?_)
                              refine lv_goto (tgt := 227) hx hb dX5_shares_292 (by decide) ?_
                              exact ih227 (k + 1) (upd h2 (6 + 4 * k + 2) (L2 k)) L2 x2 _ _ _ (by omega) (by omega) (sp_Rm_same hM3 k) (by rw [← hh2, lp_step (sp_s2 (sp_P t (sp_low t i) (sp_hi t i))) (show k < sp_hi t i + 1 by omega), sp_s2_p0 c8]) (by omega) hP hD hS (lv_sub hl [3, 4, 5, 6, 1, 0] rfl)
                    exact hloop227 (_ + 1) (sp_low t i) h L x _ _ _ (Nat.le_refl _) (by omega) (hM2) (by unfold sp_sh2; rw [hfx]) (Nat.lt_succ_self _) hP hD hS (lv_sub hl [1, 2, 3, 4, 6, 0] rfl)
                · have c6 := mt (nI_ltI (by omega) (by omega)).mpr c6
                  refine lv_iload_n hx hb dX5_shares_171 rfl (lv_at hl 1 rfl) ?_
                  refine lv_i2l (v := q.toInt64) hx hb dX5_shares_172 (rfl) ?_
                  refine lv_aload_n hx hb dX5_shares_173 rfl (lv_at hl 0 rfl) ?_
                  refine va_get (D := g.1) (ci := 5) (v := .ref a.2.2.2.2.2.2.2.2) (C := RX5) (T := TX5) (N := 11) hx hb hts inX5 hown hK.1 hP 0 rfl rfl 10 (by decide) (hts _ (List.mem_of_getElem? (i := 1) rfl)) (fun _ h9 => h9) rfl dX5_shares_174 ?_
                  refine lv_iload hx hb dX5_shares_177 (lv_at hl 6 rfl) ?_
                  refine va_iald hx hb hK.1 hP 8 0 rfl rfl (vp_in_nI (by omega) (by omega)) dX5_shares_179 ?_
                  refine sp_top (y := pf k) (congrArg pf (sp_c8 (k := k) (by omega))) ?_
                  refine sp_top (y := nI ((sp_P t (sp_low t i) (sp_hi t i)) k)) (hpf k hk1 (by omega)) ?_
                  refine lv_i2l (v := lN ((sp_P t (sp_low t i) (sp_hi t i)) k)) hx hb dX5_shares_180 (nI_l (Nat.lt_of_le_of_lt (sp_P_le hI _ _ k) (by omega))) ?_
                  refine lv_lmul hx hb dX5_shares_181 ?_
                  refine lv_iload hx hb dX5_shares_182 (lv_at hl 4 rfl) ?_
                  refine lv_i2l (v := lN (sp_al t (sp_low t i) (sp_hi t i))) hx hb dX5_shares_184 (nI_l (Nat.lt_of_le_of_lt (sp_al_le hI (by omega)) (by omega))) ?_
                  refine lv_ldiv hx hb dX5_shares_185 (sp_lne (sp_al_pos (by omega)) (Nat.lt_of_le_of_lt (sp_al_le hI (by omega)) (by omega))) ?_
                  refine lv_l2i (v := sp_got q ((sp_P t (sp_low t i) (sp_hi t i)) k) (sp_al t (sp_low t i) (sp_hi t i))) hx hb dX5_shares_186 (rfl) ?_
                  refine lv_istore (lv' := [(8, .int (sp_got q ((sp_P t (sp_low t i) (sp_hi t i)) k) (sp_al t (sp_low t i) (sp_hi t i)))), (0, .ref a.1), (2, .int q), (3, .int (nI (sp_low t i))), (4, .int (nI (sp_hi t i))), (5, .int (nI (sp_al t (sp_low t i) (sp_hi t i)))), (6, .int x), (7, .int (nI k))]) hx hb dX5_shares_187 hl (by decide) rfl (fun ls hl => ?_)
                  refine lv_aload_n hx hb dX5_shares_189 rfl (lv_at hl 1 rfl) ?_
                  refine lv_iload hx hb dX5_shares_190 (lv_at hl 7 rfl) ?_
                  refine lv_iconst (v := nI 2) hx hb dX5_shares_192 (by decide) ?_
                  refine lv_aload_n hx hb dX5_shares_193 rfl (lv_at hl 1 rfl) ?_
                  refine lv_iload hx hb dX5_shares_194 (lv_at hl 7 rfl) ?_
                  refine lv_iconst (v := nI 2) hx hb dX5_shares_196 (by decide) ?_
                  refine sp_vi0 (n := 2) SF hK hA (c_X5_of l g a (h, v.2.1, v.2.2.1, v.2.2.2.1, v.2.2.2.2.1, v.2.2.2.2.2.1, v.2.2.2.2.2.2.1, v.2.2.2.2.2.2.2.1, v.2.2.2.2.2.2.2.2.1, v.2.2.2.2.2.2.2.2.2.1, pf) k 2 (by omega) (by omega)) gX5_shares_X5_of rfl rfl rfl (by decide +kernel) rfl ⟨Nat.le_of_ble_eq_true rfl, Nat.le_of_ble_eq_true rfl⟩ 5 0 rfl rfl hP hD hS hl.1 rfl (Nat.le_of_ble_eq_true rfl) dX5_shares_197 (fun r9 u9 H locs w9 hP hD hS => ?_)
                  subst w9
                  refine sp_top (y := L k) (hM2.lo (show k < tn t by omega)) ?_
                  have hP : va_P g.1 vwCl (mdW g a (h, v.2.1, v.2.2.1, v.2.2.2.1, v.2.2.2.2.1, v.2.2.2.2.2.1, v.2.2.2.2.2.2.1, v.2.2.2.2.2.2.2.1, v.2.2.2.2.2.2.2.2.1, v.2.2.2.2.2.2.2.2.2.1, pf)) H := hP
                  have hD : va_D A (mdW g a (h, v.2.1, v.2.2.1, v.2.2.2.1, v.2.2.2.2.1, v.2.2.2.2.2.1, v.2.2.2.2.2.2.1, v.2.2.2.2.2.2.2.1, v.2.2.2.2.2.2.2.2.1, v.2.2.2.2.2.2.2.2.2.1, pf)) := hD
                  refine lv_iload hx hb dX5_shares_200 (lv_at hl 0 rfl) ?_
                  refine lv_iadd hx hb dX5_shares_202 ?_
                  refine sp_vv0 (n := 3) SF hK hA (c_X5_put l g a (h, v.2.1, v.2.2.1, v.2.2.2.1, v.2.2.2.2.1, v.2.2.2.2.2.1, v.2.2.2.2.2.2.1, v.2.2.2.2.2.2.2.1, v.2.2.2.2.2.2.2.2.1, v.2.2.2.2.2.2.2.2.2.1, pf) k 2 (by omega) (by omega) ((L k) + (sp_got q ((sp_P t (sp_low t i) (sp_hi t i)) k) (sp_al t (sp_low t i) (sp_hi t i))))) gX5_shares_X5_put rfl rfl rfl (by decide +kernel) rfl ⟨Nat.le_of_ble_eq_true rfl, Nat.le_of_ble_eq_true rfl⟩ 5 0 rfl rfl hP hD hS hl.1 rfl (Nat.le_of_ble_eq_true rfl) dX5_shares_203 (fun u9 H locs w10 hP hD hS => ?_)
                  have hP : va_P g.1 vwCl (mdW g a ((upd h (6 + 4 * k + 2) ((L k) + (sp_got q ((sp_P t (sp_low t i) (sp_hi t i)) k) (sp_al t (sp_low t i) (sp_hi t i))))), v.2.1, v.2.2.1, v.2.2.2.1, v.2.2.2.2.1, v.2.2.2.2.2.1, v.2.2.2.2.2.2.1, v.2.2.2.2.2.2.2.1, v.2.2.2.2.2.2.2.2.1, v.2.2.2.2.2.2.2.2.2.1, pf)) H := hP
                  have hD : va_D A (mdW g a ((upd h (6 + 4 * k + 2) ((L k) + (sp_got q ((sp_P t (sp_low t i) (sp_hi t i)) k) (sp_al t (sp_low t i) (sp_hi t i))))), v.2.1, v.2.2.1, v.2.2.2.1, v.2.2.2.2.1, v.2.2.2.2.2.1, v.2.2.2.2.2.2.1, v.2.2.2.2.2.2.2.1, v.2.2.2.2.2.2.2.2.1, v.2.2.2.2.2.2.2.2.2.1, pf)) := hD
                  refine lv_iload hx hb dX5_shares_206 (lv_at hl 6 rfl) ?_
                  refine lv_iload hx hb dX5_shares_208 (lv_at hl 0 rfl) ?_
                  refine lv_isub hx hb dX5_shares_210 ?_
                  refine lv_istore (lv' := [(6, .int (x - (sp_got q ((sp_P t (sp_low t i) (sp_hi t i)) k) (sp_al t (sp_low t i) (sp_hi t i))))), (8, .int (sp_got q ((sp_P t (sp_low t i) (sp_hi t i)) k) (sp_al t (sp_low t i) (sp_hi t i)))), (0, .ref a.1), (2, .int q), (3, .int (nI (sp_low t i))), (4, .int (nI (sp_hi t i))), (5, .int (nI (sp_al t (sp_low t i) (sp_hi t i)))), (7, .int (nI k))]) hx hb dX5_shares_211 hl (by decide) rfl (fun ls hl => ?_)
                  refine lv_iinc (v := nI (k + 1)) (lv' := [(7, .int (nI (k + 1))), (6, .int (x - (sp_got q ((sp_P t (sp_low t i) (sp_hi t i)) k) (sp_al t (sp_low t i) (sp_hi t i))))), (8, .int (sp_got q ((sp_P t (sp_low t i) (sp_hi t i)) k) (sp_al t (sp_low t i) (sp_hi t i)))), (0, .ref a.1), (2, .int q), (3, .int (nI (sp_low t i))), (4, .int (nI (sp_hi t i))), (5, .int (nI (sp_al t (sp_low t i) (sp_hi t i))))]) hx hb dX5_shares_213 hl (k := 7) rfl (nI_1 k) (by decide) rfl (fun ls hl => ?_)
                  refine lv_goto (tgt := 164) hx hb dX5_shares_216 (by decide) ?_
                  exact ih164 (k + 1) (upd h (6 + 4 * k + 2) (L k + sp_got q ((sp_P t (sp_low t i) (sp_hi t i)) k) (sp_al t (sp_low t i) (sp_hi t i)))) (upd L k (L k + sp_got q ((sp_P t (sp_low t i) (sp_hi t i)) k) (sp_al t (sp_low t i) (sp_hi t i)))) (x - sp_got q ((sp_P t (sp_low t i) (sp_hi t i)) k) (sp_al t (sp_low t i) (sp_hi t i))) _ _ _ (by omega) (by omega) (sp_Rm_lo hM2 k _) (by rw [← hh, lp_step (sp_s1 q (sp_P t (sp_low t i) (sp_hi t i)) (sp_al t (sp_low t i) (sp_hi t i))) (show k < sp_hi t i + 1 by omega)]; rfl) (by omega) hP hD hS (lv_sub hl [3, 4, 5, 6, 7, 1, 0] rfl)
            exact hloop164 (_ + 1) (sp_low t i) v.1 (tlo t) q _ _ _ (Nat.le_refl _) (by omega) (hM) (rfl) (Nat.lt_succ_self _) hP hD hS (lv_sub hl [2, 4, 5, 6, 7, 1, 0] rfl)
          by_cases hz : al = 0
          · subst hz
            refine lv_iload_n hx hb dX5_shares_111 rfl (lv_at hl 3 rfl) ?_
            refine lv_istore (lv' := [(6, .int (nI (sp_low t i))), (0, .ref a.1), (1, .int (nI i)), (2, .int q), (3, .int (nI (sp_low t i))), (4, .int (nI (sp_hi t i))), (5, .int (nI 0))]) hx hb dX5_shares_112 hl (by decide) rfl (fun ls hl => ?_)
            have hloop114 : ∀ (n114 : Nat) (k : Nat) (pf2 : Nat → Int32) (H : Heap) (locs : List Loc) (ls : Array Slot), (sp_low t i ≤ k) → (k ≤ sp_hi t i + 1) → (∀ j, sp_low t i ≤ j → j < k → pf2 j = nI 1) → sp_hi t i + 1 - k < n114 → va_P g.1 vwCl (mdW g a (v.1, v.2.1, v.2.2.1, v.2.2.2.1, v.2.2.2.2.1, v.2.2.2.2.2.1, v.2.2.2.2.2.2.1, v.2.2.2.2.2.2.2.1, v.2.2.2.2.2.2.2.2.1, v.2.2.2.2.2.2.2.2.2.1, pf2)) H → va_D A (mdW g a (v.1, v.2.1, v.2.2.1, v.2.2.2.1, v.2.2.2.2.1, v.2.2.2.2.2.1, v.2.2.2.2.2.2.1, v.2.2.2.2.2.2.2.1, v.2.2.2.2.2.2.2.2.1, v.2.2.2.2.2.2.2.2.2.1, pf2)) → va_S A s.heap H locs → lv_has ls 9 [(0, .ref a.1), (1, .int (nI i)), (2, .int q), (3, .int (nI (sp_low t i))), (4, .int (nI (sp_hi t i))), (5, .int (nI 0)), (6, .int (nI k))] → W p l e ({ frames := 4, cells := 0, slots := 0, locals := 86 }) s m ([.ref a.1, .int (nI i), .int q] : List Value).toArray below meth c H locs 0 0 Q (F0 m 114 ls []) := by
              intro n114
              induction n114 with
              | zero =>
                intro k pf2 H locs ls hk1 hk2 hp2 h9
                exact absurd h9 (Nat.not_lt_zero _)
              | succ n114 ih114 =>
                intro k pf2 H locs ls hk1 hk2 hp2 hm114 hP hD hS hl
                refine lv_iload hx hb dX5_shares_114 (lv_at hl 6 rfl) ?_
                refine lv_iload hx hb dX5_shares_116 (lv_at hl 4 rfl) ?_
                refine lv_icmp_gt (tgt := 140) hx hb dX5_shares_118 (by decide) (fun c4 => ?_) (fun c4 => ?_)
                · have c4 := (nI_ltI (by omega) (by omega)).mp c4
                  refine lv_iload hx hb dX5_shares_140 (lv_at hl 5 rfl) ?_
                  refine lv_if_ne (tgt := 154) hx hb dX5_shares_142 (by decide) (fun c6 => ?_) (fun c6 => ?_)
                  · have c6 := mt (sp_z_eq (by omega)).mpr c6
                    exact absurd rfl c6
                  · have c6 := (sp_z_eq (by omega)).mp c6
                    refine lv_iload hx hb dX5_shares_145 (lv_at hl 4 rfl) ?_
                    refine lv_iload_n hx hb dX5_shares_147 rfl (lv_at hl 3 rfl) ?_
                    refine lv_isub hx hb dX5_shares_148 ?_
                    refine sp_top (y := nI (sp_hi t i - sp_low t i)) (sp_sub (by omega)) ?_
                    refine lv_iconst (v := nI 1) hx hb dX5_shares_149 (by decide) ?_
                    refine lv_iadd hx hb dX5_shares_150 ?_
                    refine sp_top (y := nI ((sp_hi t i - sp_low t i) + 1)) (nI_add _ _) ?_
                    refine lv_goto (tgt := 156) hx hb dX5_shares_151 (by decide) ?_
                    refine sp_top (y := nI (sp_al t (sp_low t i) (sp_hi t i))) (congrArg nI (by unfold sp_al; rw [if_pos hal2]; omega)) ?_
                    refine lv_istore (lv' := [(5, .int (nI (sp_al t (sp_low t i) (sp_hi t i)))), (0, .ref a.1), (1, .int (nI i)), (2, .int q), (3, .int (nI (sp_low t i))), (4, .int (nI (sp_hi t i))), (6, .int (nI k))]) hx hb dX5_shares_156 hl (by decide) rfl (fun ls hl => ?_)
                    exact hj158 pf2 _ _ _ (fun j h1 h2 => by rw [hp2 j h1 (by omega)]; unfold sp_P; rw [if_pos hal2]) hP hD hS (lv_sub hl [1, 2, 3, 4, 5, 0] rfl)
                · have c4 := mt (nI_ltI (by omega) (by omega)).mpr c4
                  refine lv_iload hx hb dX5_shares_121 (lv_at hl 5 rfl) ?_
                  refine lv_if_ne (tgt := 140) hx hb dX5_shares_123 (by decide) (fun c5 => ?_) (fun c5 => ?_)
                  · have c5 := mt (sp_z_eq (by omega)).mpr c5
                    exact absurd rfl c5
                  · have c5 := (sp_z_eq (by omega)).mp c5
                    refine lv_aload_n hx hb dX5_shares_126 rfl (lv_at hl 0 rfl) ?_
                    refine va_get (D := g.1) (ci := 5) (v := .ref a.2.2.2.2.2.2.2.2) (C := RX5) (T := TX5) (N := 11) hx hb hts inX5 hown hK.1 hP 0 rfl rfl 10 (by decide) (hts _ (List.mem_of_getElem? (i := 1) rfl)) (fun _ h9 => h9) rfl dX5_shares_127 ?_
                    refine lv_iload hx hb dX5_shares_130 (lv_at hl 6 rfl) ?_
                    refine lv_iconst (v := nI 1) hx hb dX5_shares_132 (by decide) ?_
                    refine va_iast hx hb hK.1 hP hD hS 8 0 rfl rfl (vp_in_nI (by omega) (by omega)) dX5_shares_133 (fun H locs hP hD hS => ?_)
                    rw [sp_c8 (k := k) (by omega)] at hP hD
                    have hP : va_P g.1 vwCl (mdW g a (v.1, v.2.1, v.2.2.1, v.2.2.2.1, v.2.2.2.2.1, v.2.2.2.2.2.1, v.2.2.2.2.2.2.1, v.2.2.2.2.2.2.2.1, v.2.2.2.2.2.2.2.2.1, v.2.2.2.2.2.2.2.2.2.1, (upd pf2 k (nI 1)))) H := hP
                    have hD : va_D A (mdW g a (v.1, v.2.1, v.2.2.1, v.2.2.2.1, v.2.2.2.2.1, v.2.2.2.2.2.1, v.2.2.2.2.2.2.1, v.2.2.2.2.2.2.2.1, v.2.2.2.2.2.2.2.2.1, v.2.2.2.2.2.2.2.2.2.1, (upd pf2 k (nI 1)))) := hD
                    refine lv_iinc (v := nI (k + 1)) (lv' := [(6, .int (nI (k + 1))), (0, .ref a.1), (1, .int (nI i)), (2, .int q), (3, .int (nI (sp_low t i))), (4, .int (nI (sp_hi t i))), (5, .int (nI 0))]) hx hb dX5_shares_134 hl (k := 6) rfl (nI_1 k) (by decide) rfl (fun ls hl => ?_)
                    refine lv_goto (tgt := 114) hx hb dX5_shares_137 (by decide) ?_
                    exact ih114 (k + 1) (upd pf2 k (nI 1)) _ _ _ (by omega) (by omega) (sp_upd_ext (F := fun _ => nI 1) hp2 rfl) (by omega) hP hD hS (lv_sub hl [1, 2, 3, 4, 5, 6, 0] rfl)
            exact hloop114 (_ + 1) (sp_low t i) pf _ _ _ (Nat.le_refl _) (by omega) (fun j h1 h2 => absurd h1 (by omega)) (Nat.lt_succ_self _) hP hD hS (lv_sub hl [1, 2, 3, 4, 5, 6, 0] rfl)
          · have hz2 := hz
            refine lv_iload_n hx hb dX5_shares_111 rfl (lv_at hl 3 rfl) ?_
            refine lv_istore (lv' := [(6, .int (nI (sp_low t i))), (0, .ref a.1), (1, .int (nI i)), (2, .int q), (3, .int (nI (sp_low t i))), (4, .int (nI (sp_hi t i))), (5, .int (nI al))]) hx hb dX5_shares_112 hl (by decide) rfl (fun ls hl => ?_)
            refine lv_iload hx hb dX5_shares_114 (lv_at hl 0 rfl) ?_
            refine lv_iload hx hb dX5_shares_116 (lv_at hl 5 rfl) ?_
            refine lv_icmp_gt (tgt := 140) hx hb dX5_shares_118 (by decide) (fun c4 => ?_) (fun c4 => ?_)
            · have c4 := (nI_ltI (by omega) (by omega)).mp c4
              exact absurd c4 (by omega)
            · have c4 := mt (nI_ltI (by omega) (by omega)).mpr c4
              refine lv_iload hx hb dX5_shares_121 (lv_at hl 6 rfl) ?_
              refine lv_if_ne (tgt := 140) hx hb dX5_shares_123 (by decide) (fun c5 => ?_) (fun c5 => ?_)
              · have c5 := mt (sp_z_eq (by omega)).mpr c5
                refine lv_iload hx hb dX5_shares_140 (lv_at hl 6 rfl) ?_
                refine lv_if_ne (tgt := 154) hx hb dX5_shares_142 (by decide) (fun c6 => ?_) (fun c6 => ?_)
                · have c6 := mt (sp_z_eq (by omega)).mpr c6
                  refine lv_iload hx hb dX5_shares_154 (lv_at hl 6 rfl) ?_
                  refine sp_top (y := nI (sp_al t (sp_low t i) (sp_hi t i))) (congrArg nI (by unfold sp_al; rw [if_neg (by omega)]; exact hal2.symm)) ?_
                  refine lv_istore (lv' := [(5, .int (nI (sp_al t (sp_low t i) (sp_hi t i)))), (6, .int (nI (sp_low t i))), (0, .ref a.1), (1, .int (nI i)), (2, .int q), (3, .int (nI (sp_low t i))), (4, .int (nI (sp_hi t i)))]) hx hb dX5_shares_156 hl (by decide) rfl (fun ls hl => ?_)
                  exact hj158 pf _ _ _ (fun j h1 h2 => by rw [hpf j h1 (by omega)]; unfold sp_P; rw [if_neg (by omega)]) hP hD hS (lv_sub hl [2, 3, 4, 5, 6, 0] rfl)
                · have c6 := (sp_z_eq (by omega)).mp c6
                  exact absurd c6 hz
              · have c5 := (sp_z_eq (by omega)).mp c5
                exact absurd c5 hz
        · have c4 := mt (nI_ltI (by omega) (by omega)).mpr c4
          refine lv_aload_n hx hb dX5_shares_35 rfl (lv_at hl 0 rfl) ?_
          refine va_get (D := g.1) (ci := 5) (v := .ref a.2.2.2.2.2.2.2.2) (C := RX5) (T := TX5) (N := 11) hx hb hts inX5 hown hK.1 hP 0 rfl rfl 10 (by decide) (hts _ (List.mem_of_getElem? (i := 1) rfl)) (fun _ h9 => h9) rfl dX5_shares_36 ?_
          refine lv_iload hx hb dX5_shares_39 (lv_at hl 6 rfl) ?_
          refine lv_aload_n hx hb dX5_shares_41 rfl (lv_at hl 0 rfl) ?_
          refine va_get (D := g.1) (ci := 5) (v := .ref a.2.1) (C := RX5) (T := TX5) (N := 11) hx hb hts inX5 hown hK.1 hP 0 rfl rfl 0 (by decide) (hts _ (List.mem_of_getElem? (i := 2) rfl)) (fun _ h9 => h9) rfl dX5_shares_42 ?_
          refine lv_iconst (v := nI 5) hx hb dX5_shares_45 (by decide) ?_
          refine va_iald hx hb hK.1 hP 1 0 rfl rfl (vp_in_nI (by omega) (by omega)) dX5_shares_46 ?_
          refine sp_top (y := v.1 5) (congrArg v.1 (sp_c8 (k := 5) (by omega))) ?_
          refine sp_top (y := nI (tr t)) (hM.r) ?_
          refine lv_if_ne (tgt := 67) hx hb dX5_shares_47 (by decide) (fun cr0 => ?_) (fun cr0 => ?_)
          · have cr0 := mt (sp_z_eq (by omega)).mpr cr0
            refine lv_aload_n hx hb dX5_shares_67 rfl (lv_at hl 0 rfl) ?_
            refine va_get (D := g.1) (ci := 5) (v := .ref a.2.1) (C := RX5) (T := TX5) (N := 11) hx hb hts inX5 hown hK.1 hP 0 rfl rfl 0 (by decide) (hts _ (List.mem_of_getElem? (i := 2) rfl)) (fun _ h9 => h9) rfl dX5_shares_68 ?_
            refine lv_iconst (v := nI 5) hx hb dX5_shares_71 (by decide) ?_
            refine va_iald hx hb hK.1 hP 1 0 rfl rfl (vp_in_nI (by omega) (by omega)) dX5_shares_72 ?_
            refine sp_top (y := v.1 5) (congrArg v.1 (sp_c8 (k := 5) (by omega))) ?_
            refine sp_top (y := nI (tr t)) (hM.r) ?_
            refine lv_iconst (v := nI 1) hx hb dX5_shares_73 (by decide) ?_
            refine lv_icmp_ne (tgt := 86) hx hb dX5_shares_74 (by decide) (fun cr1 => ?_) (fun cr1 => ?_)
            · have cr1 := mt (nI_eq (by omega) (by omega)).mpr cr1
              refine lv_aload_n hx hb dX5_shares_86 rfl (lv_at hl 0 rfl) ?_
              refine lv_iload hx hb dX5_shares_87 (lv_at hl 6 rfl) ?_
              refine sp_vi0 (n := 1) SF hK hA (c_X5_age l g a (v.1, v.2.1, v.2.2.1, v.2.2.2.1, v.2.2.2.2.1, v.2.2.2.2.2.1, v.2.2.2.2.2.2.1, v.2.2.2.2.2.2.2.1, v.2.2.2.2.2.2.2.2.1, v.2.2.2.2.2.2.2.2.2.1, pf) t hM hI k (by omega)) gX5_shares_X5_age rfl rfl rfl (by decide +kernel) rfl ⟨Nat.le_of_ble_eq_true rfl, Nat.le_of_ble_eq_true rfl⟩ 5 0 rfl rfl hP hD hS hl.1 rfl (Nat.le_of_ble_eq_true rfl) dX5_shares_89 (fun r9 u9 H locs w11 hP hD hS => ?_)
              subst w11
              have hP : va_P g.1 vwCl (mdW g a (v.1, v.2.1, v.2.2.1, v.2.2.2.1, v.2.2.2.2.1, v.2.2.2.2.2.1, v.2.2.2.2.2.2.1, v.2.2.2.2.2.2.2.1, v.2.2.2.2.2.2.2.2.1, v.2.2.2.2.2.2.2.2.2.1, pf)) H := hP
              have hD : va_D A (mdW g a (v.1, v.2.1, v.2.2.1, v.2.2.2.1, v.2.2.2.2.1, v.2.2.2.2.2.1, v.2.2.2.2.2.2.1, v.2.2.2.2.2.2.2.1, v.2.2.2.2.2.2.2.2.1, v.2.2.2.2.2.2.2.2.2.1, pf)) := hD
              refine sp_top (y := nI (sp_prt t k)) (congrArg nI (by unfold sp_prt; first | rw [if_pos cr0, if_pos ca] | rw [if_pos cr0, if_neg ca] | rw [if_neg cr0, if_pos cr1] | rw [if_neg cr0, if_neg cr1])) ?_
              refine va_iast hx hb hK.1 hP hD hS 8 0 rfl rfl (vp_in_nI (by omega) (by omega)) dX5_shares_92 (fun H locs hP hD hS => ?_)
              rw [sp_c8 (k := k) (by omega)] at hP hD
              have hP : va_P g.1 vwCl (mdW g a (v.1, v.2.1, v.2.2.1, v.2.2.2.1, v.2.2.2.2.1, v.2.2.2.2.2.1, v.2.2.2.2.2.2.1, v.2.2.2.2.2.2.2.1, v.2.2.2.2.2.2.2.2.1, v.2.2.2.2.2.2.2.2.2.1, (upd pf k (nI (sp_prt t k))))) H := hP
              have hD : va_D A (mdW g a (v.1, v.2.1, v.2.2.1, v.2.2.2.1, v.2.2.2.2.1, v.2.2.2.2.2.1, v.2.2.2.2.2.2.1, v.2.2.2.2.2.2.2.1, v.2.2.2.2.2.2.2.2.1, v.2.2.2.2.2.2.2.2.2.1, (upd pf k (nI (sp_prt t k))))) := hD
              refine lv_iload hx hb dX5_shares_93 (lv_at hl 5 rfl) ?_
              refine lv_aload_n hx hb dX5_shares_95 rfl (lv_at hl 0 rfl) ?_
              refine va_get (D := g.1) (ci := 5) (v := .ref a.2.2.2.2.2.2.2.2) (C := RX5) (T := TX5) (N := 11) hx hb hts inX5 hown hK.1 hP 0 rfl rfl 10 (by decide) (hts _ (List.mem_of_getElem? (i := 1) rfl)) (fun _ h9 => h9) rfl dX5_shares_96 ?_
              refine lv_iload hx hb dX5_shares_99 (lv_at hl 6 rfl) ?_
              refine va_iald hx hb hK.1 hP 8 0 rfl rfl (vp_in_nI (by omega) (by omega)) dX5_shares_101 ?_
              refine sp_top (y := (upd pf k (nI (sp_prt t k))) k) (congrArg (upd pf k (nI (sp_prt t k))) (sp_c8 (k := k) (by omega))) ?_
              refine sp_top (y := nI (sp_prt t k)) (sp_upd_s) ?_
              refine lv_iadd hx hb dX5_shares_102 ?_
              refine sp_top (y := nI (al + (sp_prt t k))) (nI_add _ _) ?_
              refine lv_istore (lv' := [(5, .int (nI (al + (sp_prt t k)))), (0, .ref a.1), (1, .int (nI i)), (2, .int q), (3, .int (nI (sp_low t i))), (4, .int (nI (sp_hi t i))), (6, .int (nI k))]) hx hb dX5_shares_103 hl (by decide) rfl (fun ls hl => ?_)
              refine lv_iinc (v := nI (k + 1)) (lv' := [(6, .int (nI (k + 1))), (5, .int (nI (al + (sp_prt t k)))), (0, .ref a.1), (1, .int (nI i)), (2, .int q), (3, .int (nI (sp_low t i))), (4, .int (nI (sp_hi t i)))]) hx hb dX5_shares_105 hl (k := 6) rfl (nI_1 k) (by decide) rfl (fun ls hl => ?_)
              refine lv_goto (tgt := 28) hx hb dX5_shares_108 (by decide) ?_
              exact ih28 (k + 1) (al + sp_prt t k) (upd pf k (nI (sp_prt t k))) _ _ _ (by omega) (by omega) (sp_upd_ext (F := fun j => nI (sp_prt t j)) hpf rfl) (by rw [← hal, lp_step (sp_als (sp_prt t)) (show k < sp_hi t i + 1 by omega)]; rfl) (by omega) (by omega) hP hD hS (lv_sub hl [2, 3, 4, 5, 6, 1, 0] rfl)
            · have cr1 := (nI_eq (by omega) (by omega)).mp cr1
              refine lv_aload_n hx hb dX5_shares_77 rfl (lv_at hl 0 rfl) ?_
              refine lv_iload hx hb dX5_shares_78 (lv_at hl 6 rfl) ?_
              refine sp_vi0 (n := 1) SF hK hA (c_X5_strength l g a (v.1, v.2.1, v.2.2.1, v.2.2.2.1, v.2.2.2.2.1, v.2.2.2.2.2.1, v.2.2.2.2.2.2.1, v.2.2.2.2.2.2.2.1, v.2.2.2.2.2.2.2.2.1, v.2.2.2.2.2.2.2.2.2.1, pf) t hM hI k (by omega)) gX5_shares_X5_strength rfl rfl rfl (by decide +kernel) rfl ⟨Nat.le_of_ble_eq_true rfl, Nat.le_of_ble_eq_true rfl⟩ 5 0 rfl rfl hP hD hS hl.1 rfl (Nat.le_of_ble_eq_true rfl) dX5_shares_80 (fun r9 u9 H locs w12 hP hD hS => ?_)
              subst w12
              have hP : va_P g.1 vwCl (mdW g a (v.1, v.2.1, v.2.2.1, v.2.2.2.1, v.2.2.2.2.1, v.2.2.2.2.2.1, v.2.2.2.2.2.2.1, v.2.2.2.2.2.2.2.1, v.2.2.2.2.2.2.2.2.1, v.2.2.2.2.2.2.2.2.2.1, pf)) H := hP
              have hD : va_D A (mdW g a (v.1, v.2.1, v.2.2.1, v.2.2.2.1, v.2.2.2.2.1, v.2.2.2.2.2.1, v.2.2.2.2.2.2.1, v.2.2.2.2.2.2.2.1, v.2.2.2.2.2.2.2.2.1, v.2.2.2.2.2.2.2.2.2.1, pf)) := hD
              refine lv_goto (tgt := 92) hx hb dX5_shares_83 (by decide) ?_
              refine sp_top (y := nI (sp_prt t k)) (congrArg nI (by unfold sp_prt; first | rw [if_pos cr0, if_pos ca] | rw [if_pos cr0, if_neg ca] | rw [if_neg cr0, if_pos cr1] | rw [if_neg cr0, if_neg cr1])) ?_
              refine va_iast hx hb hK.1 hP hD hS 8 0 rfl rfl (vp_in_nI (by omega) (by omega)) dX5_shares_92 (fun H locs hP hD hS => ?_)
              rw [sp_c8 (k := k) (by omega)] at hP hD
              have hP : va_P g.1 vwCl (mdW g a (v.1, v.2.1, v.2.2.1, v.2.2.2.1, v.2.2.2.2.1, v.2.2.2.2.2.1, v.2.2.2.2.2.2.1, v.2.2.2.2.2.2.2.1, v.2.2.2.2.2.2.2.2.1, v.2.2.2.2.2.2.2.2.2.1, (upd pf k (nI (sp_prt t k))))) H := hP
              have hD : va_D A (mdW g a (v.1, v.2.1, v.2.2.1, v.2.2.2.1, v.2.2.2.2.1, v.2.2.2.2.2.1, v.2.2.2.2.2.2.1, v.2.2.2.2.2.2.2.1, v.2.2.2.2.2.2.2.2.1, v.2.2.2.2.2.2.2.2.2.1, (upd pf k (nI (sp_prt t k))))) := hD
              refine lv_iload hx hb dX5_shares_93 (lv_at hl 5 rfl) ?_
              refine lv_aload_n hx hb dX5_shares_95 rfl (lv_at hl 0 rfl) ?_
              refine va_get (D := g.1) (ci := 5) (v := .ref a.2.2.2.2.2.2.2.2) (C := RX5) (T := TX5) (N := 11) hx hb hts inX5 hown hK.1 hP 0 rfl rfl 10 (by decide) (hts _ (List.mem_of_getElem? (i := 1) rfl)) (fun _ h9 => h9) rfl dX5_shares_96 ?_
              refine lv_iload hx hb dX5_shares_99 (lv_at hl 6 rfl) ?_
              refine va_iald hx hb hK.1 hP 8 0 rfl rfl (vp_in_nI (by omega) (by omega)) dX5_shares_101 ?_
              refine sp_top (y := (upd pf k (nI (sp_prt t k))) k) (congrArg (upd pf k (nI (sp_prt t k))) (sp_c8 (k := k) (by omega))) ?_
              refine sp_top (y := nI (sp_prt t k)) (sp_upd_s) ?_
              refine lv_iadd hx hb dX5_shares_102 ?_
              refine sp_top (y := nI (al + (sp_prt t k))) (nI_add _ _) ?_
              refine lv_istore (lv' := [(5, .int (nI (al + (sp_prt t k)))), (0, .ref a.1), (1, .int (nI i)), (2, .int q), (3, .int (nI (sp_low t i))), (4, .int (nI (sp_hi t i))), (6, .int (nI k))]) hx hb dX5_shares_103 hl (by decide) rfl (fun ls hl => ?_)
              refine lv_iinc (v := nI (k + 1)) (lv' := [(6, .int (nI (k + 1))), (5, .int (nI (al + (sp_prt t k)))), (0, .ref a.1), (1, .int (nI i)), (2, .int q), (3, .int (nI (sp_low t i))), (4, .int (nI (sp_hi t i)))]) hx hb dX5_shares_105 hl (k := 6) rfl (nI_1 k) (by decide) rfl (fun ls hl => ?_)
              refine lv_goto (tgt := 28) hx hb dX5_shares_108 (by decide) ?_
              exact ih28 (k + 1) (al + sp_prt t k) (upd pf k (nI (sp_prt t k))) _ _ _ (by omega) (by omega) (sp_upd_ext (F := fun j => nI (sp_prt t j)) hpf rfl) (by rw [← hal, lp_step (sp_als (sp_prt t)) (show k < sp_hi t i + 1 by omega)]; rfl) (by omega) (by omega) hP hD hS (lv_sub hl [2, 3, 4, 5, 6, 1, 0] rfl)
          · have cr0 := (sp_z_eq (by omega)).mp cr0
            refine lv_aload_n hx hb dX5_shares_50 rfl (lv_at hl 0 rfl) ?_
            refine lv_iload hx hb dX5_shares_51 (lv_at hl 6 rfl) ?_
            refine sp_vi0 (n := 1) SF hK hA (c_X5_age l g a (v.1, v.2.1, v.2.2.1, v.2.2.2.1, v.2.2.2.2.1, v.2.2.2.2.2.1, v.2.2.2.2.2.2.1, v.2.2.2.2.2.2.2.1, v.2.2.2.2.2.2.2.2.1, v.2.2.2.2.2.2.2.2.2.1, pf) t hM hI k (by omega)) gX5_shares_X5_age rfl rfl rfl (by decide +kernel) rfl ⟨Nat.le_of_ble_eq_true rfl, Nat.le_of_ble_eq_true rfl⟩ 5 0 rfl rfl hP hD hS hl.1 rfl (Nat.le_of_ble_eq_true rfl) dX5_shares_53 (fun r9 u9 H locs w13 hP hD hS => ?_)
            subst w13
            have hP : va_P g.1 vwCl (mdW g a (v.1, v.2.1, v.2.2.1, v.2.2.2.1, v.2.2.2.2.1, v.2.2.2.2.2.1, v.2.2.2.2.2.2.1, v.2.2.2.2.2.2.2.1, v.2.2.2.2.2.2.2.2.1, v.2.2.2.2.2.2.2.2.2.1, pf)) H := hP
            have hD : va_D A (mdW g a (v.1, v.2.1, v.2.2.1, v.2.2.2.1, v.2.2.2.2.1, v.2.2.2.2.2.1, v.2.2.2.2.2.2.1, v.2.2.2.2.2.2.2.1, v.2.2.2.2.2.2.2.2.1, v.2.2.2.2.2.2.2.2.2.1, pf)) := hD
            refine lv_if_le (tgt := 63) hx hb dX5_shares_56 (by decide) (fun ca => ?_) (fun ca => ?_)
            · have ca := (sp_z_le (by omega)).mp ca
              refine lv_iconst (v := nI 0) hx hb dX5_shares_63 (by decide) ?_
              refine lv_goto (tgt := 92) hx hb dX5_shares_64 (by decide) ?_
              refine sp_top (y := nI (sp_prt t k)) (congrArg nI (by unfold sp_prt; first | rw [if_pos cr0, if_pos ca] | rw [if_pos cr0, if_neg ca] | rw [if_neg cr0, if_pos cr1] | rw [if_neg cr0, if_neg cr1])) ?_
              refine va_iast hx hb hK.1 hP hD hS 8 0 rfl rfl (vp_in_nI (by omega) (by omega)) dX5_shares_92 (fun H locs hP hD hS => ?_)
              rw [sp_c8 (k := k) (by omega)] at hP hD
              have hP : va_P g.1 vwCl (mdW g a (v.1, v.2.1, v.2.2.1, v.2.2.2.1, v.2.2.2.2.1, v.2.2.2.2.2.1, v.2.2.2.2.2.2.1, v.2.2.2.2.2.2.2.1, v.2.2.2.2.2.2.2.2.1, v.2.2.2.2.2.2.2.2.2.1, (upd pf k (nI (sp_prt t k))))) H := hP
              have hD : va_D A (mdW g a (v.1, v.2.1, v.2.2.1, v.2.2.2.1, v.2.2.2.2.1, v.2.2.2.2.2.1, v.2.2.2.2.2.2.1, v.2.2.2.2.2.2.2.1, v.2.2.2.2.2.2.2.2.1, v.2.2.2.2.2.2.2.2.2.1, (upd pf k (nI (sp_prt t k))))) := hD
              refine lv_iload hx hb dX5_shares_93 (lv_at hl 5 rfl) ?_
              refine lv_aload_n hx hb dX5_shares_95 rfl (lv_at hl 0 rfl) ?_
              refine va_get (D := g.1) (ci := 5) (v := .ref a.2.2.2.2.2.2.2.2) (C := RX5) (T := TX5) (N := 11) hx hb hts inX5 hown hK.1 hP 0 rfl rfl 10 (by decide) (hts _ (List.mem_of_getElem? (i := 1) rfl)) (fun _ h9 => h9) rfl dX5_shares_96 ?_
              refine lv_iload hx hb dX5_shares_99 (lv_at hl 6 rfl) ?_
              refine va_iald hx hb hK.1 hP 8 0 rfl rfl (vp_in_nI (by omega) (by omega)) dX5_shares_101 ?_
              refine sp_top (y := (upd pf k (nI (sp_prt t k))) k) (congrArg (upd pf k (nI (sp_prt t k))) (sp_c8 (k := k) (by omega))) ?_
              refine sp_top (y := nI (sp_prt t k)) (sp_upd_s) ?_
              refine lv_iadd hx hb dX5_shares_102 ?_
              refine sp_top (y := nI (al + (sp_prt t k))) (nI_add _ _) ?_
              refine lv_istore (lv' := [(5, .int (nI (al + (sp_prt t k)))), (0, .ref a.1), (1, .int (nI i)), (2, .int q), (3, .int (nI (sp_low t i))), (4, .int (nI (sp_hi t i))), (6, .int (nI k))]) hx hb dX5_shares_103 hl (by decide) rfl (fun ls hl => ?_)
              refine lv_iinc (v := nI (k + 1)) (lv' := [(6, .int (nI (k + 1))), (5, .int (nI (al + (sp_prt t k)))), (0, .ref a.1), (1, .int (nI i)), (2, .int q), (3, .int (nI (sp_low t i))), (4, .int (nI (sp_hi t i)))]) hx hb dX5_shares_105 hl (k := 6) rfl (nI_1 k) (by decide) rfl (fun ls hl => ?_)
              refine lv_goto (tgt := 28) hx hb dX5_shares_108 (by decide) ?_
              exact ih28 (k + 1) (al + sp_prt t k) (upd pf k (nI (sp_prt t k))) _ _ _ (by omega) (by omega) (sp_upd_ext (F := fun j => nI (sp_prt t j)) hpf rfl) (by rw [← hal, lp_step (sp_als (sp_prt t)) (show k < sp_hi t i + 1 by omega)]; rfl) (by omega) (by omega) hP hD hS (lv_sub hl [2, 3, 4, 5, 6, 1, 0] rfl)
            · have ca := mt (sp_z_le (by omega)).mpr ca
              refine lv_iconst (v := nI 1) hx hb dX5_shares_59 (by decide) ?_
              refine lv_goto (tgt := 92) hx hb dX5_shares_60 (by decide) ?_
              refine sp_top (y := nI (sp_prt t k)) (congrArg nI (by unfold sp_prt; first | rw [if_pos cr0, if_pos ca] | rw [if_pos cr0, if_neg ca] | rw [if_neg cr0, if_pos cr1] | rw [if_neg cr0, if_neg cr1])) ?_
              refine va_iast hx hb hK.1 hP hD hS 8 0 rfl rfl (vp_in_nI (by omega) (by omega)) dX5_shares_92 (fun H locs hP hD hS => ?_)
              rw [sp_c8 (k := k) (by omega)] at hP hD
              have hP : va_P g.1 vwCl (mdW g a (v.1, v.2.1, v.2.2.1, v.2.2.2.1, v.2.2.2.2.1, v.2.2.2.2.2.1, v.2.2.2.2.2.2.1, v.2.2.2.2.2.2.2.1, v.2.2.2.2.2.2.2.2.1, v.2.2.2.2.2.2.2.2.2.1, (upd pf k (nI (sp_prt t k))))) H := hP
              have hD : va_D A (mdW g a (v.1, v.2.1, v.2.2.1, v.2.2.2.1, v.2.2.2.2.1, v.2.2.2.2.2.1, v.2.2.2.2.2.2.1, v.2.2.2.2.2.2.2.1, v.2.2.2.2.2.2.2.2.1, v.2.2.2.2.2.2.2.2.2.1, (upd pf k (nI (sp_prt t k))))) := hD
              refine lv_iload hx hb dX5_shares_93 (lv_at hl 5 rfl) ?_
              refine lv_aload_n hx hb dX5_shares_95 rfl (lv_at hl 0 rfl) ?_
              refine va_get (D := g.1) (ci := 5) (v := .ref a.2.2.2.2.2.2.2.2) (C := RX5) (T := TX5) (N := 11) hx hb hts inX5 hown hK.1 hP 0 rfl rfl 10 (by decide) (hts _ (List.mem_of_getElem? (i := 1) rfl)) (fun _ h9 => h9) rfl dX5_shares_96 ?_
              refine lv_iload hx hb dX5_shares_99 (lv_at hl 6 rfl) ?_
              refine va_iald hx hb hK.1 hP 8 0 rfl rfl (vp_in_nI (by omega) (by omega)) dX5_shares_101 ?_
              refine sp_top (y := (upd pf k (nI (sp_prt t k))) k) (congrArg (upd pf k (nI (sp_prt t k))) (sp_c8 (k := k) (by omega))) ?_
              refine sp_top (y := nI (sp_prt t k)) (sp_upd_s) ?_
              refine lv_iadd hx hb dX5_shares_102 ?_
              refine sp_top (y := nI (al + (sp_prt t k))) (nI_add _ _) ?_
              refine lv_istore (lv' := [(5, .int (nI (al + (sp_prt t k)))), (0, .ref a.1), (1, .int (nI i)), (2, .int q), (3, .int (nI (sp_low t i))), (4, .int (nI (sp_hi t i))), (6, .int (nI k))]) hx hb dX5_shares_103 hl (by decide) rfl (fun ls hl => ?_)
              refine lv_iinc (v := nI (k + 1)) (lv' := [(6, .int (nI (k + 1))), (5, .int (nI (al + (sp_prt t k)))), (0, .ref a.1), (1, .int (nI i)), (2, .int q), (3, .int (nI (sp_low t i))), (4, .int (nI (sp_hi t i)))]) hx hb dX5_shares_105 hl (k := 6) rfl (nI_1 k) (by decide) rfl (fun ls hl => ?_)
              refine lv_goto (tgt := 28) hx hb dX5_shares_108 (by decide) ?_
              exact ih28 (k + 1) (al + sp_prt t k) (upd pf k (nI (sp_prt t k))) _ _ _ (by omega) (by omega) (sp_upd_ext (F := fun j => nI (sp_prt t j)) hpf rfl) (by rw [← hal, lp_step (sp_als (sp_prt t)) (show k < sp_hi t i + 1 by omega)]; rfl) (by omega) (by omega) hP hD hS (lv_sub hl [2, 3, 4, 5, 6, 1, 0] rfl)
    exact hloop28 (_ + 1) (sp_low t i) 0 v.2.2.2.2.2.2.2.2.2.2 _ _ _ (Nat.le_refl _) (by omega) (fun j h1 h2 => absurd h1 (by omega)) (rfl) (Nat.zero_le _) (Nat.lt_succ_self _) hP hD hS (lv_sub hl [4, 5, 6, 3, 2, 1, 0] rfl)
  · have c1 := sp_b0n.mp c1
    have hgr : sp_gr t i = true := hbb.symm.trans c1
    exact hend _ _ _ _ (v.1, v.2.2.2.2.2.2.2.2.2.2) dX5_shares_8 (by unfold sp_shr; rw [hgr]; exact hM) hP hD hS

