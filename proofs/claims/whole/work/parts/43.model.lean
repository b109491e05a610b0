set_option maxHeartbeats 4000000 in
set_option maxRecDepth 100000 in
theorem c_X5_notes (l : Launch) (g : sp_G) (a : sp_A9) (v : sp_V) (x : sp_S) (hX : sp_M v x) (B : Nat) (hJ : sp_J x B) (hB : B ≤ 190000) : sp_CV l g yX5_notes wsX5_notes ({ frames := 0, cells := 0, slots := 0, locals := 0 }) [.ref a.1] (mdW g a v) (fun y : (Nat → Int32) × Int32 => sp_M (v.1, v.2.1, y.1, y.2, v.2.2.2.2) (sp_note x)) (fun y => mdW g a (v.1, v.2.1, y.1, y.2, v.2.2.2.2)) := by
  obtain ⟨t, z⟩ := x
  refine sp_CV.of (cc := cX5_notes) (maxL := 2) (by decide) rfl (Nat.le_of_ble_eq_true rfl) ?_
  intro p e s m below meth c Q A ls SF hK hP hD hA hl hend
  have hx := SF.1
  have hb := SF.2.1
  have hown : s.vm.findClass RX5 = some m.cls := SF.2.2.2.1
  have hts := SF.2.2.2.2
  have hS : va_S A s.heap s.heap [] := va_S.rf
  have inX5 : ∀ w ∈ wsX50, w ∈ wsX5_notes := fun w h => List.mem_cons_of_mem _ (List.mem_append_right _ h)
  have hl : lv_has ls 2 [(0, .ref a.1)] := hl
  have hM : sp_Rm v.1 t := hX.now
  have hI : sp_I t := hJ.now
  have hn8 := hI.n
  have hdB : td t ≤ B := hJ.d
  have hzz := hJ.pz
  have hz8 : ∀ j, j < s_pz (t, z) → tn (s_ph (t, z) j) ≤ 8 := fun j hj => (hJ.ph hj).1.n
  have hj49 : ∀ (pn : Nat) (f : Nat → Int32) (H : Heap) (locs : List Loc) (ls : Array Slot), (pn + 1 = min (s_pz (t, z) + 1) 20) → (∀ j, j < pn → sp_Rm (fun k => f (38 * (pn - 1 - j) + k)) (s_ph (t, z) j)) → va_P g.1 vwCl (mdW g a (v.1, v.2.1, f, nI pn, v.2.2.2.2.1, v.2.2.2.2.2.1, v.2.2.2.2.2.2.1, v.2.2.2.2.2.2.2.1, v.2.2.2.2.2.2.2.2.1, v.2.2.2.2.2.2.2.2.2.1, v.2.2.2.2.2.2.2.2.2.2)) H → va_D A (mdW g a (v.1, v.2.1, f, nI pn, v.2.2.2.2.1, v.2.2.2.2.2.1, v.2.2.2.2.2.2.1, v.2.2.2.2.2.2.2.1, v.2.2.2.2.2.2.2.2.1, v.2.2.2.2.2.2.2.2.2.1, v.2.2.2.2.2.2.2.2.2.2)) → va_S A s.heap H locs → lv_has ls 2 [(0, .ref a.1)] → W p l e ({ frames := 0, cells := 0, slots := 0, locals := 0 }) s m ([.ref a.1] : List Value).toArray below meth c H locs 0 0 Q (F0 m 49 ls []) := by
    intro pn f H locs ls hpn hf hP hD hS hl
    refine lv_iconst (v := nI 0) hx hb dX5_notes_49 (by decide) ?_
    refine lv_istore_n (lv' := [(1, .int (nI 0)), (0, .ref a.1)]) hx hb dX5_notes_50 rfl hl (by decide) rfl (fun ls hl => ?_)
    have hloop51 : ∀ (n51 : Nat) (k : Nat) (f2 : Nat → Int32) (H : Heap) (locs : List Loc) (ls : Array Slot), (k ≤ 38) → (∀ j, j < 38 * pn → f2 j = f j) → (∀ j, j < k → f2 (38 * pn + j) = v.1 j) → 38 - k < n51 → va_P g.1 vwCl (mdW g a (v.1, v.2.1, f2, nI pn, v.2.2.2.2.1, v.2.2.2.2.2.1, v.2.2.2.2.2.2.1, v.2.2.2.2.2.2.2.1, v.2.2.2.2.2.2.2.2.1, v.2.2.2.2.2.2.2.2.2.1, v.2.2.2.2.2.2.2.2.2.2)) H → va_D A (mdW g a (v.1, v.2.1, f2, nI pn, v.2.2.2.2.1, v.2.2.2.2.2.1, v.2.2.2.2.2.2.1, v.2.2.2.2.2.2.2.1, v.2.2.2.2.2.2.2.2.1, v.2.2.2.2.2.2.2.2.2.1, v.2.2.2.2.2.2.2.2.2.2)) → va_S A s.heap H locs → lv_has ls 2 [(0, .ref a.1), (1, .int (nI k))] → W p l e ({ frames := 0, cells := 0, slots := 0, locals := 0 }) s m ([.ref a.1] : List Value).toArray below meth c H locs 0 0 Q (F0 m 51 ls []) := by
      intro n51
      induction n51 with
      | zero =>
        intro k f2 H locs ls hk hg1 hg2 h9
        exact absurd h9 (Nat.not_lt_zero _)
      | succ n51 ih51 =>
        intro k f2 H locs ls hk hg1 hg2 hm51 hP hD hS hl
        refine lv_iload_n hx hb dX5_notes_51 rfl (lv_at hl 1 rfl) ?_
        refine lv_bipush (v := nI 38) hx hb dX5_notes_52 (by decide) ?_
        refine lv_icmp_ge (tgt := 83) hx hb dX5_notes_54 (by decide) (fun c3 => ?_) (fun c3 => ?_)
        · have c3 := (nI_leI (by omega) (by omega)).mp c3
          refine lv_aload_n hx hb dX5_notes_83 rfl (lv_at hl 0 rfl) ?_
          refine lv_dup hx hb dX5_notes_84 rfl ?_
          refine va_get (D := g.1) (ci := 5) (v := .int (nI pn)) (C := RX5) (T := TX5) (N := 11) hx hb hts inX5 hown hK.1 hP 0 rfl rfl 3 (by decide) (hts _ (List.mem_of_getElem? (i := 1) rfl)) (fun _ h9 => h9) rfl dX5_notes_85 ?_
          refine lv_iconst (v := nI 1) hx hb dX5_notes_88 (by decide) ?_
          refine lv_iadd hx hb dX5_notes_89 ?_
          refine sp_top (y := nI (pn + 1)) (nI_add _ _) ?_
          refine va_put (D := g.1) (ci := 5) (v := .int (nI (pn + 1))) (ty := .int) (C := RX5) (T := TX5) (N := 11) hx hb hts inX5 tyX5 tyX5_ok nmX5 hown hK.1 hP hD hS 0 rfl rfl 3 (by decide) (hts _ (List.mem_of_getElem? (i := 1) rfl)) (fun _ h9 => h9) rfl (by decide +kernel) rfl rfl (Nat.le_of_ble_eq_true rfl) dX5_notes_90 (fun H locs hP hD hS => ?_)
          have hP : va_P g.1 vwCl (mdW g a (v.1, v.2.1, f2, (nI (pn + 1)), v.2.2.2.2.1, v.2.2.2.2.2.1, v.2.2.2.2.2.2.1, v.2.2.2.2.2.2.2.1, v.2.2.2.2.2.2.2.2.1, v.2.2.2.2.2.2.2.2.2.1, v.2.2.2.2.2.2.2.2.2.2)) H := hP
          have hD : va_D A (mdW g a (v.1, v.2.1, f2, (nI (pn + 1)), v.2.2.2.2.1, v.2.2.2.2.2.1, v.2.2.2.2.2.2.1, v.2.2.2.2.2.2.2.1, v.2.2.2.2.2.2.2.2.1, v.2.2.2.2.2.2.2.2.2.1, v.2.2.2.2.2.2.2.2.2.2)) := hD
          exact hend _ _ _ _ (f2, nI (pn + 1)) dX5_notes_93 (sp_M_note hX hn8 hz8 hpn hf hg1 (fun j hj => hg2 j (by omega))) hP hD hS
        · have c3 := mt (nI_leI (by omega) (by omega)).mpr c3
          refine lv_aload_n hx hb dX5_notes_57 rfl (lv_at hl 0 rfl) ?_
          refine va_get (D := g.1) (ci := 5) (v := .ref a.2.2.2.1) (C := RX5) (T := TX5) (N := 11) hx hb hts inX5 hown hK.1 hP 0 rfl rfl 2 (by decide) (hts _ (List.mem_of_getElem? (i := 2) rfl)) (fun _ h9 => h9) rfl dX5_notes_58 ?_
          refine lv_bipush (v := nI 38) hx hb dX5_notes_61 (by decide) ?_
          refine lv_aload_n hx hb dX5_notes_63 rfl (lv_at hl 0 rfl) ?_
          refine va_get (D := g.1) (ci := 5) (v := .int (nI pn)) (C := RX5) (T := TX5) (N := 11) hx hb hts inX5 hown hK.1 hP 0 rfl rfl 3 (by decide) (hts _ (List.mem_of_getElem? (i := 1) rfl)) (fun _ h9 => h9) rfl dX5_notes_64 ?_
          refine lv_imul hx hb dX5_notes_67 ?_
          refine sp_top (y := nI (38 * pn)) (sp_mul _ _) ?_
          refine lv_iload_n hx hb dX5_notes_68 rfl (lv_at hl 1 rfl) ?_
          refine lv_iadd hx hb dX5_notes_69 ?_
          refine sp_top (y := nI ((38 * pn) + k)) (nI_add _ _) ?_
          refine lv_aload_n hx hb dX5_notes_70 rfl (lv_at hl 0 rfl) ?_
          refine va_get (D := g.1) (ci := 5) (v := .ref a.2.1) (C := RX5) (T := TX5) (N := 11) hx hb hts inX5 hown hK.1 hP 0 rfl rfl 0 (by decide) (hts _ (List.mem_of_getElem? (i := 3) rfl)) (fun _ h9 => h9) rfl dX5_notes_71 ?_
          refine lv_iload_n hx hb dX5_notes_74 rfl (lv_at hl 1 rfl) ?_
          refine va_iald hx hb hK.1 hP 1 0 rfl rfl (vp_in_nI (by omega) (by omega)) dX5_notes_75 ?_
          refine sp_top (y := v.1 k) (congrArg v.1 (sp_c8 (k := k) (by omega))) ?_
          refine va_iast hx hb hK.1 hP hD hS 3 0 rfl rfl (vp_in_nI (by omega) (by omega)) dX5_notes_76 (fun H locs hP hD hS => ?_)
          rw [sp_c8 (k := ((38 * pn) + k)) (by omega)] at hP hD
          have hP : va_P g.1 vwCl (mdW g a (v.1, v.2.1, (upd f2 ((38 * pn) + k) (v.1 k)), nI pn, v.2.2.2.2.1, v.2.2.2.2.2.1, v.2.2.2.2.2.2.1, v.2.2.2.2.2.2.2.1, v.2.2.2.2.2.2.2.2.1, v.2.2.2.2.2.2.2.2.2.1, v.2.2.2.2.2.2.2.2.2.2)) H := hP
          have hD : va_D A (mdW g a (v.1, v.2.1, (upd f2 ((38 * pn) + k) (v.1 k)), nI pn, v.2.2.2.2.1, v.2.2.2.2.2.1, v.2.2.2.2.2.2.1, v.2.2.2.2.2.2.2.1, v.2.2.2.2.2.2.2.2.1, v.2.2.2.2.2.2.2.2.2.1, v.2.2.2.2.2.2.2.2.2.2)) := hD
          refine lv_iinc (v := nI (k + 1)) (lv' := [(1, .int (nI (k + 1))), (0, .ref a.1)]) hx hb dX5_notes_77 hl (k := 1) rfl (nI_1 k) (by decide) rfl (fun ls hl => ?_)
          refine lv_goto (tgt := 51) hx hb dX5_notes_80 (by decide) ?_
          exact ih51 (k + 1) (upd f2 (38 * pn + k) (v.1 k)) _ _ _ (by omega) (fun j hj => by rw [sp_upd_n (by omega)]; exact hg1 j hj) (fun j hj => by
            by_cases hz : j = k
            · rw [hz, sp_upd_s]
            · rw [sp_upd_n (by omega)]; exact hg2 j (by omega)) (by omega) hP hD hS (lv_sub hl [1, 0] rfl)
    exact hloop51 (_ + 1) 0 f _ _ _ (by omega) (fun j hj => rfl) (fun j hj => absurd hj (Nat.not_lt_zero j)) (Nat.lt_succ_self _) hP hD hS (lv_sub hl [1, 0] rfl)
  refine lv_aload_n hx hb dX5_notes_0 rfl (lv_at hl 0 rfl) ?_
  refine va_get (D := g.1) (ci := 5) (v := .int v.2.2.2.1) (C := RX5) (T := TX5) (N := 11) hx hb hts inX5 hown hK.1 hP 0 rfl rfl 3 (by decide) (hts _ (List.mem_of_getElem? (i := 1) rfl)) (fun _ h9 => h9) rfl dX5_notes_1 ?_
  refine sp_top (y := nI (s_pz (t, z))) (hX.dee) ?_
  refine lv_bipush (v := nI 20) hx hb dX5_notes_4 (by decide) ?_
  refine lv_icmp_ne (tgt := 49) hx hb dX5_notes_6 (by decide) (fun c1 => ?_) (fun c1 => ?_)
  · have c1 := mt (nI_eq (by omega) (by omega)).mpr c1
    have hde := hX.dee
    have hP : va_P g.1 vwCl (mdW g a (v.1, v.2.1, v.2.2.1, nI (s_pz (t, z)), v.2.2.2.2)) s.heap := by rw [← hde]; exact hP
    have hD : va_D A (mdW g a (v.1, v.2.1, v.2.2.1, nI (s_pz (t, z)), v.2.2.2.2)) := by rw [← hde]; exact hD
    exact hj49 (s_pz (t, z)) v.2.2.1 _ _ _ (by omega) (fun j hj => hX.pas hj) hP hD hS (lv_sub hl [0] rfl)
  · have c1 := (nI_eq (by omega) (by omega)).mp c1
    refine lv_iconst (v := nI 0) hx hb dX5_notes_9 (by decide) ?_
    refine lv_istore_n (lv' := [(1, .int (nI 0)), (0, .ref a.1)]) hx hb dX5_notes_10 rfl hl (by decide) rfl (fun ls hl => ?_)
    have hloop11 : ∀ (n11 : Nat) (k : Nat) (f1 : Nat → Int32) (H : Heap) (locs : List Loc) (ls : Array Slot), (k ≤ 722) → (∀ j, j < 760 → (j < k → f1 j = v.2.2.1 (j + 38)) ∧ (¬ j < k → f1 j = v.2.2.1 j)) → 722 - k < n11 → va_P g.1 vwCl (mdW g a (v.1, v.2.1, f1, v.2.2.2.1, v.2.2.2.2.1, v.2.2.2.2.2.1, v.2.2.2.2.2.2.1, v.2.2.2.2.2.2.2.1, v.2.2.2.2.2.2.2.2.1, v.2.2.2.2.2.2.2.2.2.1, v.2.2.2.2.2.2.2.2.2.2)) H → va_D A (mdW g a (v.1, v.2.1, f1, v.2.2.2.1, v.2.2.2.2.1, v.2.2.2.2.2.1, v.2.2.2.2.2.2.1, v.2.2.2.2.2.2.2.1, v.2.2.2.2.2.2.2.2.1, v.2.2.2.2.2.2.2.2.2.1, v.2.2.2.2.2.2.2.2.2.2)) → va_S A s.heap H locs → lv_has ls 2 [(0, .ref a.1), (1, .int (nI k))] → W p l e ({ frames := 0, cells := 0, slots := 0, locals := 0 }) s m ([.ref a.1] : List Value).toArray below meth c H locs 0 0 Q (F0 m 11 ls []) := by
      intro n11
      induction n11 with
      | zero =>
        intro k f1 H locs ls hk hg h9
        exact absurd h9 (Nat.not_lt_zero _)
      | succ n11 ih11 =>
        intro k f1 H locs ls hk hg hm11 hP hD hS hl
        refine lv_iload_n hx hb dX5_notes_11 rfl (lv_at hl 1 rfl) ?_
        refine lv_sipush (v := nI 722) hx hb dX5_notes_12 (by decide) ?_
        refine lv_icmp_ge (tgt := 39) hx hb dX5_notes_15 (by decide) (fun c2 => ?_) (fun c2 => ?_)
        · have c2 := (nI_leI (by omega) (by omega)).mp c2
          refine lv_aload_n hx hb dX5_notes_39 rfl (lv_at hl 0 rfl) ?_
          refine lv_dup hx hb dX5_notes_40 rfl ?_
          refine va_get (D := g.1) (ci := 5) (v := .int v.2.2.2.1) (C := RX5) (T := TX5) (N := 11) hx hb hts inX5 hown hK.1 hP 0 rfl rfl 3 (by decide) (hts _ (List.mem_of_getElem? (i := 1) rfl)) (fun _ h9 => h9) rfl dX5_notes_41 ?_
          refine sp_top (y := nI (s_pz (t, z))) (hX.dee) ?_
          refine lv_iconst (v := nI 1) hx hb dX5_notes_44 (by decide) ?_
          refine lv_isub hx hb dX5_notes_45 ?_
          refine sp_top (y := nI 19) (by rw [c1]; exact sp_sub (by omega)) ?_
          refine va_put (D := g.1) (ci := 5) (v := .int (nI 19)) (ty := .int) (C := RX5) (T := TX5) (N := 11) hx hb hts inX5 tyX5 tyX5_ok nmX5 hown hK.1 hP hD hS 0 rfl rfl 3 (by decide) (hts _ (List.mem_of_getElem? (i := 1) rfl)) (fun _ h9 => h9) rfl (by decide +kernel) rfl rfl (Nat.le_of_ble_eq_true rfl) dX5_notes_46 (fun H locs hP hD hS => ?_)
          have hP : va_P g.1 vwCl (mdW g a (v.1, v.2.1, f1, (nI 19), v.2.2.2.2.1, v.2.2.2.2.2.1, v.2.2.2.2.2.2.1, v.2.2.2.2.2.2.2.1, v.2.2.2.2.2.2.2.2.1, v.2.2.2.2.2.2.2.2.2.1, v.2.2.2.2.2.2.2.2.2.2)) H := hP
          have hD : va_D A (mdW g a (v.1, v.2.1, f1, (nI 19), v.2.2.2.2.1, v.2.2.2.2.2.1, v.2.2.2.2.2.2.1, v.2.2.2.2.2.2.2.1, v.2.2.2.2.2.2.2.2.1, v.2.2.2.2.2.2.2.2.2.1, v.2.2.2.2.2.2.2.2.2.2)) := hD
          exact hj49 19 f1 _ _ _ (by omega) (sp_M_shift hX c1 hz8 (fun j hj => (hg j (by omega)).1 (by omega))) hP hD hS (lv_sub hl [0] rfl)
        · have c2 := mt (nI_leI (by omega) (by omega)).mpr c2
          refine lv_aload_n hx hb dX5_notes_18 rfl (lv_at hl 0 rfl) ?_
          refine va_get (D := g.1) (ci := 5) (v := .ref a.2.2.2.1) (C := RX5) (T := TX5) (N := 11) hx hb hts inX5 hown hK.1 hP 0 rfl rfl 2 (by decide) (hts _ (List.mem_of_getElem? (i := 2) rfl)) (fun _ h9 => h9) rfl dX5_notes_19 ?_
          refine lv_iload_n hx hb dX5_notes_22 rfl (lv_at hl 1 rfl) ?_
          refine lv_aload_n hx hb dX5_notes_23 rfl (lv_at hl 0 rfl) ?_
          refine va_get (D := g.1) (ci := 5) (v := .ref a.2.2.2.1) (C := RX5) (T := TX5) (N := 11) hx hb hts inX5 hown hK.1 hP 0 rfl rfl 2 (by decide) (hts _ (List.mem_of_getElem? (i := 2) rfl)) (fun _ h9 => h9) rfl dX5_notes_24 ?_
          refine lv_iload_n hx hb dX5_notes_27 rfl (lv_at hl 1 rfl) ?_
          refine lv_bipush (v := nI 38) hx hb dX5_notes_28 (by decide) ?_
          refine lv_iadd hx hb dX5_notes_30 ?_
          refine sp_top (y := nI (k + 38)) (nI_add _ _) ?_
          refine va_iald hx hb hK.1 hP 3 0 rfl rfl (vp_in_nI (by omega) (by omega)) dX5_notes_31 ?_
          refine sp_top (y := f1 (k + 38)) (congrArg f1 (sp_c8 (k := (k + 38)) (by omega))) ?_
          refine va_iast hx hb hK.1 hP hD hS 3 0 rfl rfl (vp_in_nI (by omega) (by omega)) dX5_notes_32 (fun H locs hP hD hS => ?_)
          rw [sp_c8 (k := k) (by omega)] at hP hD
          have hP : va_P g.1 vwCl (mdW g a (v.1, v.2.1, (upd f1 k (f1 (k + 38))), v.2.2.2.1, v.2.2.2.2.1, v.2.2.2.2.2.1, v.2.2.2.2.2.2.1, v.2.2.2.2.2.2.2.1, v.2.2.2.2.2.2.2.2.1, v.2.2.2.2.2.2.2.2.2.1, v.2.2.2.2.2.2.2.2.2.2)) H := hP
          have hD : va_D A (mdW g a (v.1, v.2.1, (upd f1 k (f1 (k + 38))), v.2.2.2.1, v.2.2.2.2.1, v.2.2.2.2.2.1, v.2.2.2.2.2.2.1, v.2.2.2.2.2.2.2.1, v.2.2.2.2.2.2.2.2.1, v.2.2.2.2.2.2.2.2.2.1, v.2.2.2.2.2.2.2.2.2.2)) := hD
          refine lv_iinc (v := nI (k + 1)) (lv' := [(1, .int (nI (k + 1))), (0, .ref a.1)]) hx hb dX5_notes_33 hl (k := 1) rfl (nI_1 k) (by decide) rfl (fun ls hl => ?_)
          refine lv_goto (tgt := 11) hx hb dX5_notes_36 (by decide) ?_
          exact ih11 (k + 1) (upd f1 k (f1 (k + 38))) _ _ _ (by omega) (fun j hj => ⟨fun q => by
            by_cases hz : j = k
            · rw [hz, sp_upd_s]; exact (hg (k + 38) (by omega)).2 (by omega)
            · rw [sp_upd_n hz]; exact (hg j hj).1 (by omega), fun q => by rw [sp_upd_n (by omega)]; exact (hg j hj).2 (by omega)⟩) (by omega) hP hD hS (lv_sub hl [1, 0] rfl)
    exact hloop11 (_ + 1) 0 v.2.2.1 _ _ _ (by omega) (fun j hj => ⟨fun q => absurd q (Nat.not_lt_zero j), fun _ => rfl⟩) (Nat.lt_succ_self _) hP hD hS (lv_sub hl [1, 0] rfl)

set_option maxHeartbeats 4000000 in
set_option maxRecDepth 100000 in
theorem c_X5_wrong (l : Launch) (g : sp_G) (a : sp_A9) (v : sp_V) (x : sp_S) (hX : sp_M v x) (B : Nat) (hJ : sp_J x B) (hB : B ≤ 150000) : sp_CI l g yX5_wrong wsX5_wrong ({ frames := 2, cells := 0, slots := 0, locals := 43 }) [.ref a.1] (mdW g a v) (fun r (_ : Unit) => r = sp_wrong x) (fun _ => mdW g a v) := by
  obtain ⟨t, z⟩ := x
  refine sp_CI.of (cc := cX5_wrong) (maxL := 2) (by decide) rfl (Nat.le_of_ble_eq_true rfl) ?_
  intro p e s m below meth c Q A ls SF hK hP hD hA hl hend
  have hx := SF.1
  have hb := SF.2.1
  have hown : s.vm.findClass RX5 = some m.cls := SF.2.2.2.1
  have hts := SF.2.2.2.2
  have hS : va_S A s.heap s.heap [] := va_S.rf
  have inX5 : ∀ w ∈ wsX50, w ∈ wsX5_wrong := fun w h => List.mem_cons_of_mem _ (List.mem_append_right _ h)
  have hl : lv_has ls 2 [(0, .ref a.1)] := hl
  have hM : sp_Rm v.1 t := hX.now
  have hI : sp_I t := hJ.now
  have hn8 := hI.n
  have hdB : td t ≤ B := hJ.d
  have hb20 := hJ.bn
  refine lv_iconst (v := nI 0) hx hb dX5_wrong_0 (by decide) ?_
  refine lv_istore_n (lv' := [(1, .int (nI 0)), (0, .ref a.1)]) hx hb dX5_wrong_1 rfl hl (by decide) rfl (fun ls hl => ?_)
  have hloop2 : ∀ (n2 : Nat) (k : Nat) (H : Heap) (locs : List Loc) (ls : Array Slot), (k ≤ s_bn (t, z)) → (wrF t (s_bf (t, z)) (s_bl (t, z)) (s_bn (t, z) - k) k = sp_wrong (t, z)) → s_bn (t, z) - k < n2 → va_P g.1 vwCl (mdW g a v) H → va_D A (mdW g a v) → va_S A s.heap H locs → lv_has ls 2 [(0, .ref a.1), (1, .int (nI k))] → W p l e ({ frames := 2, cells := 0, slots := 0, locals := 43 }) s m ([.ref a.1] : List Value).toArray below meth c H locs 0 0 Q (F0 m 2 ls []) := by
    intro n2
    induction n2 with
    | zero =>
      intro k H locs ls hk hh h9
      exact absurd h9 (Nat.not_lt_zero _)
    | succ n2 ih2 =>
      intro k H locs ls hk hh hm2 hP hD hS hl
      refine lv_iload_n hx hb dX5_wrong_2 rfl (lv_at hl 1 rfl) ?_
      refine lv_aload_n hx hb dX5_wrong_3 rfl (lv_at hl 0 rfl) ?_
      refine va_get (D := g.1) (ci := 5) (v := .int v.2.2.2.2.2.2.2.2.2.1) (C := RX5) (T := TX5) (N := 11) hx hb hts inX5 hown hK.1 hP 0 rfl rfl 9 (by decide) (hts _ (List.mem_of_getElem? (i := 1) rfl)) (fun _ h9 => h9) rfl dX5_wrong_4 ?_
      refine sp_top (y := nI (s_bn (t, z))) (hX.ent) ?_
      refine lv_icmp_ge (tgt := 59) hx hb dX5_wrong_7 (by decide) (fun c1 => ?_) (fun c1 => ?_)
      · have c1 := (nI_leI (by omega) (by omega)).mp c1
        refine lv_iconst (v := (-1)) hx hb dX5_wrong_59 (by decide) ?_
        exact hend _ _ _ _ _ () dX5_wrong_60 (by rw [← hh, wrF_e (by omega)]) hP hD hS
      · have c1 := mt (nI_leI (by omega) (by omega)).mpr c1
        have hbf := hJ.bf (k := k) (by omega)
        refine lv_aload_n hx hb dX5_wrong_10 rfl (lv_at hl 0 rfl) ?_
        refine lv_aload_n hx hb dX5_wrong_11 rfl (lv_at hl 0 rfl) ?_
        refine va_get (D := g.1) (ci := 5) (v := .ref a.2.2.2.2.2.2.2.1) (C := RX5) (T := TX5) (N := 11) hx hb hts inX5 hown hK.1 hP 0 rfl rfl 8 (by decide) (hts _ (List.mem_of_getElem? (i := 2) rfl)) (fun _ h9 => h9) rfl dX5_wrong_12 ?_
        refine lv_iconst (v := nI 2) hx hb dX5_wrong_15 (by decide) ?_
        refine lv_iload_n hx hb dX5_wrong_16 rfl (lv_at hl 1 rfl) ?_
        refine lv_imul hx hb dX5_wrong_17 ?_
        refine sp_top (y := nI (2 * k)) (sp_mul _ _) ?_
        refine va_iald hx hb hK.1 hP 7 0 rfl rfl (vp_in_nI (by omega) (by omega)) dX5_wrong_18 ?_
        refine sp_top (y := v.2.2.2.2.2.2.2.2.1 (2 * k)) (congrArg v.2.2.2.2.2.2.2.2.1 (sp_c8 (k := (2 * k)) (by omega))) ?_
        refine sp_top (y := nI (s_bf (t, z) k)) (hX.bf (by omega)) ?_
        refine sp_vi0 (n := 1) SF hK hA (c_X5_isFloor l g a v t hM hI (nI (s_bf (t, z) k))) gX5_wrong_X5_isFloor rfl rfl rfl (by decide +kernel) rfl ⟨Nat.le_of_ble_eq_true rfl, Nat.le_of_ble_eq_true rfl⟩ 5 0 rfl rfl hP hD hS hl.1 rfl (Nat.le_of_ble_eq_true rfl) dX5_wrong_19 (fun r9 u9 H locs hbb hP hD hS => ?_)
        obtain ⟨bb, rfl, hbb⟩ := hbb
        have hP : va_P g.1 vwCl (mdW g a v) H := hP
        have hD : va_D A (mdW g a v) := hD
        refine lv_if_eq (tgt := 51) hx hb dX5_wrong_22 (by decide) (fun c2 => ?_) (fun c2 => ?_)
        · have c2 := sp_b0.mp c2
          refine lv_iload_n hx hb dX5_wrong_51 rfl (lv_at hl 1 rfl) ?_
          exact hend _ _ _ _ _ () dX5_wrong_52 (by rw [← hh]; first | rw [wrF_b (by omega) (fun q => c4 q.2)] | rw [wrF_b (by omega) (fun q => by rw [sp_has_n hn8 q.1] at hbb; rw [hbb] at c2; exact absurd c2 (by decide))]) hP hD hS
        · have c2 := sp_b0n.mp c2
          have hj : s_bf (t, z) k < tn t := by
            obtain ⟨j, h5, h6⟩ := sp_has_t (hbb.symm.trans c2) hn8
            rw [(nI_eq (by omega) (by omega)).mp h6]; exact h5
          refine lv_aload_n hx hb dX5_wrong_25 rfl (lv_at hl 0 rfl) ?_
          refine lv_aload_n hx hb dX5_wrong_26 rfl (lv_at hl 0 rfl) ?_
          refine va_get (D := g.1) (ci := 5) (v := .ref a.2.2.2.2.2.2.2.1) (C := RX5) (T := TX5) (N := 11) hx hb hts inX5 hown hK.1 hP 0 rfl rfl 8 (by decide) (hts _ (List.mem_of_getElem? (i := 2) rfl)) (fun _ h9 => h9) rfl dX5_wrong_27 ?_
          refine lv_iconst (v := nI 2) hx hb dX5_wrong_30 (by decide) ?_
          refine lv_iload_n hx hb dX5_wrong_31 rfl (lv_at hl 1 rfl) ?_
          refine lv_imul hx hb dX5_wrong_32 ?_
          refine sp_top (y := nI (2 * k)) (sp_mul _ _) ?_
          refine va_iald hx hb hK.1 hP 7 0 rfl rfl (vp_in_nI (by omega) (by omega)) dX5_wrong_33 ?_
          refine sp_top (y := v.2.2.2.2.2.2.2.2.1 (2 * k)) (congrArg v.2.2.2.2.2.2.2.2.1 (sp_c8 (k := (2 * k)) (by omega))) ?_
          refine sp_top (y := nI (s_bf (t, z) k)) (hX.bf (by omega)) ?_
          refine lv_iconst (v := nI 2) hx hb dX5_wrong_34 (by decide) ?_
          refine sp_vi0 (n := 2) SF hK hA (c_X5_of l g a v (s_bf (t, z) k) 2 (by omega) (by omega)) gX5_wrong_X5_of rfl rfl rfl (by decide +kernel) rfl ⟨Nat.le_of_ble_eq_true rfl, Nat.le_of_ble_eq_true rfl⟩ 5 0 rfl rfl hP hD hS hl.1 rfl (Nat.le_of_ble_eq_true rfl) dX5_wrong_35 (fun r9 u9 H locs w1 hP hD hS => ?_)
          subst w1
          refine sp_top (y := tlo t (s_bf (t, z) k)) (hM.lo hj) ?_
          have hP : va_P g.1 vwCl (mdW g a v) H := hP
          have hD : va_D A (mdW g a v) := hD
          refine lv_aload_n hx hb dX5_wrong_38 rfl (lv_at hl 0 rfl) ?_
          refine va_get (D := g.1) (ci := 5) (v := .ref a.2.2.2.2.2.2.2.1) (C := RX5) (T := TX5) (N := 11) hx hb hts inX5 hown hK.1 hP 0 rfl rfl 8 (by decide) (hts _ (List.mem_of_getElem? (i := 2) rfl)) (fun _ h9 => h9) rfl dX5_wrong_39 ?_
          refine lv_iconst (v := nI 2) hx hb dX5_wrong_42 (by decide) ?_
          refine lv_iload_n hx hb dX5_wrong_43 rfl (lv_at hl 1 rfl) ?_
          refine lv_imul hx hb dX5_wrong_44 ?_
          refine sp_top (y := nI (2 * k)) (sp_mul _ _) ?_
          refine lv_iconst (v := nI 1) hx hb dX5_wrong_45 (by decide) ?_
          refine lv_iadd hx hb dX5_wrong_46 ?_
          refine sp_top (y := nI ((2 * k) + 1)) (nI_add _ _) ?_
          refine va_iald hx hb hK.1 hP 7 0 rfl rfl (vp_in_nI (by omega) (by omega)) dX5_wrong_47 ?_
          refine sp_top (y := v.2.2.2.2.2.2.2.2.1 ((2 * k) + 1)) (congrArg v.2.2.2.2.2.2.2.2.1 (sp_c8 (k := ((2 * k) + 1)) (by omega))) ?_
          refine sp_top (y := s_bl (t, z) k) (hX.bl (by omega)) ?_
          refine lv_icmp_eq (tgt := 53) hx hb dX5_wrong_48 (by decide) (fun c4 => ?_) (fun c4 => ?_)
          · refine lv_iinc (v := nI (k + 1)) (lv' := [(1, .int (nI (k + 1))), (0, .ref a.1)]) hx hb dX5_wrong_53 hl (k := 1) rfl (nI_1 k) (by decide) rfl (fun ls hl => ?_)
            refine lv_goto (tgt := 2) hx hb dX5_wrong_56 (by decide) ?_
            exact ih2 (k + 1) _ _ _ (by omega) (by rw [← hh, wrF_g (by omega) hj c4]) (by omega) hP hD hS (lv_sub hl [1, 0] rfl)
          · refine lv_iload_n hx hb dX5_wrong_51 rfl (lv_at hl 1 rfl) ?_
            exact hend _ _ _ _ _ () dX5_wrong_52 (by rw [← hh]; first | rw [wrF_b (by omega) (fun q => c4 q.2)] | rw [wrF_b (by omega) (fun q => by rw [sp_has_n hn8 q.1] at hbb; rw [hbb] at c2; exact absurd c2 (by decide))]) hP hD hS
  exact hloop2 (_ + 1) 0 _ _ _ (Nat.zero_le _) (rfl) (Nat.lt_succ_self _) hP hD hS (lv_sub hl [1, 0] rfl)

set_option maxHeartbeats 4000000 in
set_option maxRecDepth 100000 in
theorem c_X5_told (l : Launch) (g : sp_G) (a : sp_A9) (v : sp_V) (x : sp_S) (hX : sp_M v x) (B : Nat) (hJ : sp_J x B) (hB : B ≤ 150000) (w0 : Int32) : sp_CI l g yX5_told wsX5_told ({ frames := 8, cells := 0, slots := 0, locals := 180 }) [.ref a.1, .int w0] (mdW g a v) (fun r (w : sp_V) => r = o_told x w0 ∧ sp_M w x) (fun w => mdW g a w) := by
  obtain ⟨t, z⟩ := x
  refine sp_CI.of (cc := cX5_told) (maxL := 2) (by decide) rfl (Nat.le_of_ble_eq_true rfl) ?_
  intro p e s m below meth c Q A ls SF hK hP hD hA hl hend
  have hx := SF.1
  have hb := SF.2.1
  have hown : s.vm.findClass RX5 = some m.cls := SF.2.2.2.1
  have hts := SF.2.2.2.2
  have hS : va_S A s.heap s.heap [] := va_S.rf
  have inX5 : ∀ w ∈ wsX50, w ∈ wsX5_told := fun w h => List.mem_cons_of_mem _ (List.mem_append_right _ h)
  have hl : lv_has ls 2 [(0, .ref a.1), (1, .int w0)] := hl
  have hM : sp_Rm v.1 t := hX.now
  have hI : sp_I t := hJ.now
  have hn8 := hI.n
  have hdB : td t ≤ B := hJ.d
  refine lv_iload_n hx hb dX5_told_0 rfl (lv_at hl 1 rfl) ?_
  by_cases hsw : 0 ≤ w0.toInt ∧ w0.toInt ≤ 13
  · obtain ⟨k, hk, rfl⟩ := swI_ex (m := 13) hsw (by omega)
    rcases (show k = 0 ∨ k = 1 ∨ k = 2 ∨ k = 3 ∨ k = 4 ∨ k = 5 ∨ k = 6 ∨ k = 7 ∨ k = 8 ∨ k = 9 ∨ k = 10 ∨ k = 11 ∨ k = 12 ∨ k = 13 by omega) with rfl | rfl | rfl | rfl | rfl | rfl | rfl | rfl | rfl | rfl | rfl | rfl | rfl | rfl
    · refine lv_tableIn (off := 71) (tgt := 72) hx hb dX5_told_1 (by decide) (by decide) (by decide) (by decide) ?_
      refine lv_aload_n hx hb dX5_told_72 rfl (lv_at hl 0 rfl) ?_
      refine va_get (D := g.1) (ci := 5) (v := .ref a.2.1) (C := RX5) (T := TX5) (N := 11) hx hb hts inX5 hown hK.1 hP 0 rfl rfl 0 (by decide) (hts _ (List.mem_of_getElem? (i := 1) rfl)) (fun _ h9 => h9) rfl dX5_told_73 ?_
      refine lv_iload_n hx hb dX5_told_76 rfl (lv_at hl 1 rfl) ?_
      refine va_iald hx hb hK.1 hP 1 0 rfl rfl (vp_in_nI (by omega) (by omega)) dX5_told_77 ?_
      refine sp_top (y := v.1 0) (congrArg v.1 (sp_c8 (k := 0) (by omega))) ?_
      exact hend _ _ _ _ _ v dX5_told_78 (⟨(show _ = toldN (t, z) 0 from hM.d).trans (o_told_in (by omega)).symm, hX⟩) hP hD hS
    · refine lv_tableIn (off := 71) (tgt := 72) hx hb dX5_told_1 (by decide) (by decide) (by decide) (by decide) ?_
      refine lv_aload_n hx hb dX5_told_72 rfl (lv_at hl 0 rfl) ?_
      refine va_get (D := g.1) (ci := 5) (v := .ref a.2.1) (C := RX5) (T := TX5) (N := 11) hx hb hts inX5 hown hK.1 hP 0 rfl rfl 0 (by decide) (hts _ (List.mem_of_getElem? (i := 1) rfl)) (fun _ h9 => h9) rfl dX5_told_73 ?_
      refine lv_iload_n hx hb dX5_told_76 rfl (lv_at hl 1 rfl) ?_
      refine va_iald hx hb hK.1 hP 1 0 rfl rfl (vp_in_nI (by omega) (by omega)) dX5_told_77 ?_
      refine sp_top (y := v.1 1) (congrArg v.1 (sp_c8 (k := 1) (by omega))) ?_
      exact hend _ _ _ _ _ v dX5_told_78 (⟨(show _ = toldN (t, z) 1 from hM.n).trans (o_told_in (by omega)).symm, hX⟩) hP hD hS
    · refine lv_tableIn (off := 71) (tgt := 72) hx hb dX5_told_1 (by decide) (by decide) (by decide) (by decide) ?_
      refine lv_aload_n hx hb dX5_told_72 rfl (lv_at hl 0 rfl) ?_
      refine va_get (D := g.1) (ci := 5) (v := .ref a.2.1) (C := RX5) (T := TX5) (N := 11) hx hb hts inX5 hown hK.1 hP 0 rfl rfl 0 (by decide) (hts _ (List.mem_of_getElem? (i := 1) rfl)) (fun _ h9 => h9) rfl dX5_told_73 ?_
      refine lv_iload_n hx hb dX5_told_76 rfl (lv_at hl 1 rfl) ?_
      refine va_iald hx hb hK.1 hP 1 0 rfl rfl (vp_in_nI (by omega) (by omega)) dX5_told_77 ?_
      refine sp_top (y := v.1 2) (congrArg v.1 (sp_c8 (k := 2) (by omega))) ?_
      exact hend _ _ _ _ _ v dX5_told_78 (⟨(show _ = toldN (t, z) 2 from hM.w).trans (o_told_in (by omega)).symm, hX⟩) hP hD hS
    · refine lv_tableIn (off := 71) (tgt := 72) hx hb dX5_told_1 (by decide) (by decide) (by decide) (by decide) ?_
      refine lv_aload_n hx hb dX5_told_72 rfl (lv_at hl 0 rfl) ?_
      refine va_get (D := g.1) (ci := 5) (v := .ref a.2.1) (C := RX5) (T := TX5) (N := 11) hx hb hts inX5 hown hK.1 hP 0 rfl rfl 0 (by decide) (hts _ (List.mem_of_getElem? (i := 1) rfl)) (fun _ h9 => h9) rfl dX5_told_73 ?_
      refine lv_iload_n hx hb dX5_told_76 rfl (lv_at hl 1 rfl) ?_
      refine va_iald hx hb hK.1 hP 1 0 rfl rfl (vp_in_nI (by omega) (by omega)) dX5_told_77 ?_
      refine sp_top (y := v.1 3) (congrArg v.1 (sp_c8 (k := 3) (by omega))) ?_
      exact hend _ _ _ _ _ v dX5_told_78 (⟨(show _ = toldN (t, z) 3 from hM.m).trans (o_told_in (by omega)).symm, hX⟩) hP hD hS
    · refine lv_tableIn (off := 71) (tgt := 72) hx hb dX5_told_1 (by decide) (by decide) (by decide) (by decide) ?_
      refine lv_aload_n hx hb dX5_told_72 rfl (lv_at hl 0 rfl) ?_
      refine va_get (D := g.1) (ci := 5) (v := .ref a.2.1) (C := RX5) (T := TX5) (N := 11) hx hb hts inX5 hown hK.1 hP 0 rfl rfl 0 (by decide) (hts _ (List.mem_of_getElem? (i := 1) rfl)) (fun _ h9 => h9) rfl dX5_told_73 ?_
      refine lv_iload_n hx hb dX5_told_76 rfl (lv_at hl 1 rfl) ?_
      refine va_iald hx hb hK.1 hP 1 0 rfl rfl (vp_in_nI (by omega) (by omega)) dX5_told_77 ?_
      refine sp_top (y := v.1 4) (congrArg v.1 (sp_c8 (k := 4) (by omega))) ?_
      exact hend _ _ _ _ _ v dX5_told_78 (⟨(show _ = toldN (t, z) 4 from hM.t).trans (o_told_in (by omega)).symm, hX⟩) hP hD hS
    · refine lv_tableIn (off := 71) (tgt := 72) hx hb dX5_told_1 (by decide) (by decide) (by decide) (by decide) ?_
      refine lv_aload_n hx hb dX5_told_72 rfl (lv_at hl 0 rfl) ?_
      refine va_get (D := g.1) (ci := 5) (v := .ref a.2.1) (C := RX5) (T := TX5) (N := 11) hx hb hts inX5 hown hK.1 hP 0 rfl rfl 0 (by decide) (hts _ (List.mem_of_getElem? (i := 1) rfl)) (fun _ h9 => h9) rfl dX5_told_73 ?_
      refine lv_iload_n hx hb dX5_told_76 rfl (lv_at hl 1 rfl) ?_
      refine va_iald hx hb hK.1 hP 1 0 rfl rfl (vp_in_nI (by omega) (by omega)) dX5_told_77 ?_
      refine sp_top (y := v.1 5) (congrArg v.1 (sp_c8 (k := 5) (by omega))) ?_
      exact hend _ _ _ _ _ v dX5_told_78 (⟨(show _ = toldN (t, z) 5 from hM.r).trans (o_told_in (by omega)).symm, hX⟩) hP hD hS
    · refine lv_tableIn (off := 78) (tgt := 79) hx hb dX5_told_1 (by decide) (by decide) (by decide) (by decide) ?_
      refine lv_aload_n hx hb dX5_told_79 rfl (lv_at hl 0 rfl) ?_
      refine sp_vi0 (n := 0) SF hK hA (c_X5_propped l g a v t hM hI) gX5_told_X5_propped rfl rfl rfl (by decide +kernel) rfl ⟨Nat.le_of_ble_eq_true rfl, Nat.le_of_ble_eq_true rfl⟩ 5 0 rfl rfl hP hD hS hl.1 rfl (Nat.le_of_ble_eq_true rfl) dX5_told_80 (fun r9 u9 H locs w1 hP hD hS => ?_)
      subst w1
      have hP : va_P g.1 vwCl (mdW g a v) H := hP
      have hD : va_D A (mdW g a v) := hD
      exact hend _ _ _ _ _ v dX5_told_83 (⟨(show _ = toldN (t, z) 6 from rfl).trans (o_told_in (by omega)).symm, hX⟩) hP hD hS
    · refine lv_tableIn (off := 83) (tgt := 84) hx hb dX5_told_1 (by decide) (by decide) (by decide) (by decide) ?_
      refine lv_aload_n hx hb dX5_told_84 rfl (lv_at hl 0 rfl) ?_
      refine sp_vi0 (n := 0) SF hK hA (c_X5_weak l g a v t hM hI) gX5_told_X5_weak rfl rfl rfl (by decide +kernel) rfl ⟨Nat.le_of_ble_eq_true rfl, Nat.le_of_ble_eq_true rfl⟩ 5 0 rfl rfl hP hD hS hl.1 rfl (Nat.le_of_ble_eq_true rfl) dX5_told_85 (fun r9 u9 H locs w2 hP hD hS => ?_)
      subst w2
      have hP : va_P g.1 vwCl (mdW g a v) H := hP
      have hD : va_D A (mdW g a v) := hD
      exact hend _ _ _ _ _ v dX5_told_88 (⟨(show _ = toldN (t, z) 7 from rfl).trans (o_told_in (by omega)).symm, hX⟩) hP hD hS
    · refine lv_tableIn (off := 88) (tgt := 89) hx hb dX5_told_1 (by decide) (by decide) (by decide) (by decide) ?_
      refine lv_aload_n hx hb dX5_told_89 rfl (lv_at hl 0 rfl) ?_
      refine sp_vi0 (n := 0) SF hK hA (c_X5_weak l g a v t hM hI) gX5_told_X5_weak rfl rfl rfl (by decide +kernel) rfl ⟨Nat.le_of_ble_eq_true rfl, Nat.le_of_ble_eq_true rfl⟩ 5 0 rfl rfl hP hD hS hl.1 rfl (Nat.le_of_ble_eq_true rfl) dX5_told_90 (fun r9 u9 H locs w3 hP hD hS => ?_)
      subst w3
      have hP : va_P g.1 vwCl (mdW g a v) H := hP
      have hD : va_D A (mdW g a v) := hD
      refine lv_if_ne (tgt := 100) hx hb dX5_told_93 (by decide) (fun c8 => ?_) (fun c8 => ?_)
      · refine lv_iconst (v := nI 0) hx hb dX5_told_100 (by decide) ?_
        exact hend _ _ _ _ _ v dX5_told_101 (⟨(show _ = toldN (t, z) 8 from by show _ = bI (sp_safe t); unfold sp_safe; first | (rw [decide_eq_true c8]; rfl) | (rw [decide_eq_false c8]; rfl)).trans (o_told_in (by omega)).symm, hX⟩) hP hD hS
      · refine lv_iconst (v := nI 1) hx hb dX5_told_96 (by decide) ?_
        refine lv_goto (tgt := 101) hx hb dX5_told_97 (by decide) ?_
        exact hend _ _ _ _ _ v dX5_told_101 (⟨(show _ = toldN (t, z) 8 from by show _ = bI (sp_safe t); unfold sp_safe; first | (rw [decide_eq_true c8]; rfl) | (rw [decide_eq_false c8]; rfl)).trans (o_told_in (by omega)).symm, hX⟩) hP hD hS
    · refine lv_tableIn (off := 101) (tgt := 102) hx hb dX5_told_1 (by decide) (by decide) (by decide) (by decide) ?_
      refine lv_aload_n hx hb dX5_told_102 rfl (lv_at hl 0 rfl) ?_
      refine sp_vi0 (n := 0) SF hK hA (c_X5_may l g a v t hM hI) gX5_told_X5_may rfl rfl rfl (by decide +kernel) rfl ⟨Nat.le_of_ble_eq_true rfl, Nat.le_of_ble_eq_true rfl⟩ 5 0 rfl rfl hP hD hS hl.1 rfl (Nat.le_of_ble_eq_true rfl) dX5_told_103 (fun r9 x1 H locs hw1 hP hD hS => ?_)
      have hP : va_P g.1 vwCl (mdW g a (x1.1, x1.2.1, v.2.2.1, v.2.2.2.1, v.2.2.2.2.1, v.2.2.2.2.2.1, v.2.2.2.2.2.2.1, v.2.2.2.2.2.2.2.1, v.2.2.2.2.2.2.2.2.1, v.2.2.2.2.2.2.2.2.2.1, x1.2.2)) H := hP
      have hD : va_D A (mdW g a (x1.1, x1.2.1, v.2.2.1, v.2.2.2.1, v.2.2.2.2.1, v.2.2.2.2.2.1, v.2.2.2.2.2.2.1, v.2.2.2.2.2.2.2.1, v.2.2.2.2.2.2.2.2.1, v.2.2.2.2.2.2.2.2.2.1, x1.2.2)) := hD
      exact hend _ _ _ _ _ (x1.1, x1.2.1, v.2.2.1, v.2.2.2.1, v.2.2.2.2.1, v.2.2.2.2.2.1, v.2.2.2.2.2.2.1, v.2.2.2.2.2.2.2.1, v.2.2.2.2.2.2.2.2.1, v.2.2.2.2.2.2.2.2.2.1, x1.2.2) dX5_told_106 (⟨hw1.1.trans (o_told_in (x := (t, z)) (k := 9) (by omega)).symm, sp_M_ext hX hn8 hw1.2⟩) hP hD hS
    · refine lv_tableIn (off := 106) (tgt := 107) hx hb dX5_told_1 (by decide) (by decide) (by decide) (by decide) ?_
      refine lv_aload_n hx hb dX5_told_107 rfl (lv_at hl 0 rfl) ?_
      refine va_get (D := g.1) (ci := 5) (v := .ref a.2.1) (C := RX5) (T := TX5) (N := 11) hx hb hts inX5 hown hK.1 hP 0 rfl rfl 0 (by decide) (hts _ (List.mem_of_getElem? (i := 1) rfl)) (fun _ h9 => h9) rfl dX5_told_108 ?_
      refine lv_iconst (v := nI 1) hx hb dX5_told_111 (by decide) ?_
      refine va_iald hx hb hK.1 hP 1 0 rfl rfl (vp_in_nI (by omega) (by omega)) dX5_told_112 ?_
      refine sp_top (y := v.1 1) (congrArg v.1 (sp_c8 (k := 1) (by omega))) ?_
      refine sp_top (y := nI (tn t)) (hM.n) ?_
      refine lv_if_ne (tgt := 120) hx hb dX5_told_113 (by decide) (fun c10 => ?_) (fun c10 => ?_)
      · have c10 := mt (sp_z_eq (by omega)).mpr c10
        refine lv_aload_n hx hb dX5_told_120 rfl (lv_at hl 0 rfl) ?_
        refine lv_iconst (v := nI 0) hx hb dX5_told_121 (by decide) ?_
        refine sp_vi0 (n := 1) SF hK hA (c_X5_force l g a v t hM hI 0 (by omega)) gX5_told_X5_force rfl rfl rfl (by decide +kernel) rfl ⟨Nat.le_of_ble_eq_true rfl, Nat.le_of_ble_eq_true rfl⟩ 5 0 rfl rfl hP hD hS hl.1 rfl (Nat.le_of_ble_eq_true rfl) dX5_told_122 (fun r9 u9 H locs w4 hP hD hS => ?_)
        subst w4
        have hP : va_P g.1 vwCl (mdW g a v) H := hP
        have hD : va_D A (mdW g a v) := hD
        exact hend _ _ _ _ _ v dX5_told_125 (⟨(show _ = toldN (t, z) 10 from by show _ = (if tn t = 0 then 0 else sp_frc t 0); first | (rw [if_pos c10]; rfl) | rw [if_neg c10]).trans (o_told_in (by omega)).symm, hX⟩) hP hD hS
      · have c10 := (sp_z_eq (by omega)).mp c10
        refine lv_iconst (v := nI 0) hx hb dX5_told_116 (by decide) ?_
        refine lv_goto (tgt := 125) hx hb dX5_told_117 (by decide) ?_
        exact hend _ _ _ _ _ v dX5_told_125 (⟨(show _ = toldN (t, z) 10 from by show _ = (if tn t = 0 then 0 else sp_frc t 0); first | (rw [if_pos c10]; rfl) | rw [if_neg c10]).trans (o_told_in (by omega)).symm, hX⟩) hP hD hS
    · refine lv_tableIn (off := 125) (tgt := 126) hx hb dX5_told_1 (by decide) (by decide) (by decide) (by decide) ?_
      refine lv_aload_n hx hb dX5_told_126 rfl (lv_at hl 0 rfl) ?_
      refine va_get (D := g.1) (ci := 5) (v := .int v.2.2.2.2.2.2.2.2.2.1) (C := RX5) (T := TX5) (N := 11) hx hb hts inX5 hown hK.1 hP 0 rfl rfl 9 (by decide) (hts _ (List.mem_of_getElem? (i := 2) rfl)) (fun _ h9 => h9) rfl dX5_told_127 ?_
      exact hend _ _ _ _ _ v dX5_told_130 (⟨(show _ = toldN (t, z) 11 from hX.ent).trans (o_told_in (by omega)).symm, hX⟩) hP hD hS
    · refine lv_tableIn (off := 130) (tgt := 131) hx hb dX5_told_1 (by decide) (by decide) (by decide) (by decide) ?_
      refine lv_aload_n hx hb dX5_told_131 rfl (lv_at hl 0 rfl) ?_
      refine sp_vi0 (n := 0) SF hK hA (c_X5_wrong l g a v (t, z) hX B hJ hB) gX5_told_X5_wrong rfl rfl rfl (by decide +kernel) rfl ⟨Nat.le_of_ble_eq_true rfl, Nat.le_of_ble_eq_true rfl⟩ 5 0 rfl rfl hP hD hS hl.1 rfl (Nat.le_of_ble_eq_true rfl) dX5_told_132 (fun r9 u9 H locs w5 hP hD hS => ?_)
      subst w5
      have hP : va_P g.1 vwCl (mdW g a v) H := hP
      have hD : va_D A (mdW g a v) := hD
      exact hend _ _ _ _ _ v dX5_told_135 (⟨(show _ = toldN (t, z) 12 from rfl).trans (o_told_in (by omega)).symm, hX⟩) hP hD hS
    · refine lv_tableIn (off := 135) (tgt := 136) hx hb dX5_told_1 (by decide) (by decide) (by decide) (by decide) ?_
      refine lv_aload_n hx hb dX5_told_136 rfl (lv_at hl 0 rfl) ?_
      refine va_get (D := g.1) (ci := 5) (v := .int v.2.2.2.1) (C := RX5) (T := TX5) (N := 11) hx hb hts inX5 hown hK.1 hP 0 rfl rfl 3 (by decide) (hts _ (List.mem_of_getElem? (i := 3) rfl)) (fun _ h9 => h9) rfl dX5_told_137 ?_
      exact hend _ _ _ _ _ v dX5_told_140 (⟨(show _ = toldN (t, z) 13 from hX.dee).trans (o_told_in (by omega)).symm, hX⟩) hP hD hS
  · refine lv_tableOut (tgt := 141) hx hb dX5_told_1 (by omega) (by decide) ?_
    refine lv_ldc (v := (-1000000002)) hx hb hown (hts _ (List.mem_of_getElem? (i := 4) rfl)) dX5_told_141 ?_
    exact hend _ _ _ _ _ v dX5_told_143 (⟨(o_told_out hsw).symm, hX⟩) hP hD hS

set_option maxHeartbeats 4000000 in
set_option maxRecDepth 100000 in
theorem c_X5_floor (l : Launch) (g : sp_G) (a : sp_A9) (v : sp_V) (x : sp_S) (hX : sp_M v x) (B : Nat) (hJ : sp_J x B) (hB : B ≤ 150000) (i0 w0 : Int32) : sp_CI l g yX5_floor wsX5_floor ({ frames := 8, cells := 0, slots := 0, locals := 182 }) [.ref a.1, .int i0, .int w0] (mdW g a v) (fun r (w : sp_V) => r = o_floor (s_now x) i0 w0 ∧ sp_M w x) (fun w => mdW g a w) := by
  obtain ⟨t, z⟩ := x
  refine sp_CI.of (cc := cX5_floor) (maxL := 3) (by decide) rfl (Nat.le_of_ble_eq_true rfl) ?_
  intro p e s m below meth c Q A ls SF hK hP hD hA hl hend
  have hx := SF.1
  have hb := SF.2.1
  have hown : s.vm.findClass RX5 = some m.cls := SF.2.2.2.1
  have hts := SF.2.2.2.2
  have hS : va_S A s.heap s.heap [] := va_S.rf
  have inX5 : ∀ w ∈ wsX50, w ∈ wsX5_floor := fun w h => List.mem_cons_of_mem _ (List.mem_append_right _ h)
  have hl : lv_has ls 3 [(0, .ref a.1), (1, .int i0), (2, .int w0)] := hl
  have hM : sp_Rm v.1 t := hX.now
  have hI : sp_I t := hJ.now
  have hn8 := hI.n
  have hdB : td t ≤ B := hJ.d
  refine lv_aload_n hx hb dX5_floor_0 rfl (lv_at hl 0 rfl) ?_
  refine lv_iload_n hx hb dX5_floor_1 rfl (lv_at hl 1 rfl) ?_
  refine sp_vi0 (n := 1) SF hK hA (c_X5_isFloor l g a v t hM hI i0) gX5_floor_X5_isFloor rfl rfl rfl (by decide +kernel) rfl ⟨Nat.le_of_ble_eq_true rfl, Nat.le_of_ble_eq_true rfl⟩ 5 0 rfl rfl hP hD hS hl.1 rfl (Nat.le_of_ble_eq_true rfl) dX5_floor_2 (fun r9 u9 H locs hbb hP hD hS => ?_)
  obtain ⟨bb, rfl, hbb⟩ := hbb
  have hP : va_P g.1 vwCl (mdW g a v) H := hP
  have hD : va_D A (mdW g a v) := hD
  refine lv_if_ne (tgt := 11) hx hb dX5_floor_5 (by decide) (fun c1 => ?_) (fun c1 => ?_)
  · have c1 := sp_b0n.mp c1
    obtain ⟨j, hj, rfl⟩ := sp_has_t (hbb.symm.trans c1) hn8
    refine lv_iload_n hx hb dX5_floor_11 rfl (lv_at hl 2 rfl) ?_
    by_cases hsw : 0 ≤ w0.toInt ∧ w0.toInt ≤ 10
    · obtain ⟨k, hk, rfl⟩ := swI_ex (m := 10) hsw (by omega)
      rcases (show k = 0 ∨ k = 1 ∨ k = 2 ∨ k = 3 ∨ k = 4 ∨ k = 5 ∨ k = 6 ∨ k = 7 ∨ k = 8 ∨ k = 9 ∨ k = 10 by omega) with rfl | rfl | rfl | rfl | rfl | rfl | rfl | rfl | rfl | rfl | rfl
      · refine lv_tableIn (off := 60) (tgt := 72) hx hb dX5_floor_12 (by decide) (by decide) (by decide) (by decide) ?_
        refine lv_aload_n hx hb dX5_floor_72 rfl (lv_at hl 0 rfl) ?_
        refine lv_iload_n hx hb dX5_floor_73 rfl (lv_at hl 1 rfl) ?_
        refine sp_vi0 (n := 1) SF hK hA (c_X5_age l g a v t hM hI j hj) gX5_floor_X5_age rfl rfl rfl (by decide +kernel) rfl ⟨Nat.le_of_ble_eq_true rfl, Nat.le_of_ble_eq_true rfl⟩ 5 0 rfl rfl hP hD hS hl.1 rfl (Nat.le_of_ble_eq_true rfl) dX5_floor_74 (fun r9 u9 H locs w1 hP hD hS => ?_)
        subst w1
        have hP : va_P g.1 vwCl (mdW g a v) H := hP
        have hD : va_D A (mdW g a v) := hD
        exact hend _ _ _ _ _ v dX5_floor_77 (⟨(show _ = floorN t j 0 from rfl).trans (o_floor_in hn8 hj (by omega)).symm, hX⟩) hP hD hS
      · refine lv_tableIn (off := 66) (tgt := 78) hx hb dX5_floor_12 (by decide) (by decide) (by decide) (by decide) ?_
        refine lv_aload_n hx hb dX5_floor_78 rfl (lv_at hl 0 rfl) ?_
        refine lv_iload_n hx hb dX5_floor_79 rfl (lv_at hl 1 rfl) ?_
        refine lv_iconst (v := nI 1) hx hb dX5_floor_80 (by decide) ?_
        refine sp_vi0 (n := 2) SF hK hA (c_X5_of l g a v j 1 (by omega) (by omega)) gX5_floor_X5_of rfl rfl rfl (by decide +kernel) rfl ⟨Nat.le_of_ble_eq_true rfl, Nat.le_of_ble_eq_true rfl⟩ 5 0 rfl rfl hP hD hS hl.1 rfl (Nat.le_of_ble_eq_true rfl) dX5_floor_81 (fun r9 u9 H locs w2 hP hD hS => ?_)
        subst w2
        refine sp_top (y := nI (tsl t j)) (hM.sl hj) ?_
        have hP : va_P g.1 vwCl (mdW g a v) H := hP
        have hD : va_D A (mdW g a v) := hD
        exact hend _ _ _ _ _ v dX5_floor_84 (⟨(show _ = floorN t j 1 from rfl).trans (o_floor_in hn8 hj (by omega)).symm, hX⟩) hP hD hS
      · refine lv_tableIn (off := 73) (tgt := 85) hx hb dX5_floor_12 (by decide) (by decide) (by decide) (by decide) ?_
        refine lv_aload_n hx hb dX5_floor_85 rfl (lv_at hl 0 rfl) ?_
        refine lv_iload_n hx hb dX5_floor_86 rfl (lv_at hl 1 rfl) ?_
        refine sp_vi0 (n := 1) SF hK hA (c_X5_strength l g a v t hM hI j hj) gX5_floor_X5_strength rfl rfl rfl (by decide +kernel) rfl ⟨Nat.le_of_ble_eq_true rfl, Nat.le_of_ble_eq_true rfl⟩ 5 0 rfl rfl hP hD hS hl.1 rfl (Nat.le_of_ble_eq_true rfl) dX5_floor_87 (fun r9 u9 H locs w3 hP hD hS => ?_)
        subst w3
        have hP : va_P g.1 vwCl (mdW g a v) H := hP
        have hD : va_D A (mdW g a v) := hD
        exact hend _ _ _ _ _ v dX5_floor_90 (⟨(show _ = floorN t j 2 from rfl).trans (o_floor_in hn8 hj (by omega)).symm, hX⟩) hP hD hS
      · refine lv_tableIn (off := 79) (tgt := 91) hx hb dX5_floor_12 (by decide) (by decide) (by decide) (by decide) ?_
        refine lv_aload_n hx hb dX5_floor_91 rfl (lv_at hl 0 rfl) ?_
        refine lv_iload_n hx hb dX5_floor_92 rfl (lv_at hl 1 rfl) ?_
        refine lv_iconst (v := nI 2) hx hb dX5_floor_93 (by decide) ?_
        refine sp_vi0 (n := 2) SF hK hA (c_X5_of l g a v j 2 (by omega) (by omega)) gX5_floor_X5_of rfl rfl rfl (by decide +kernel) rfl ⟨Nat.le_of_ble_eq_true rfl, Nat.le_of_ble_eq_true rfl⟩ 5 0 rfl rfl hP hD hS hl.1 rfl (Nat.le_of_ble_eq_true rfl) dX5_floor_94 (fun r9 u9 H locs w4 hP hD hS => ?_)
        subst w4
        refine sp_top (y := tlo t j) (hM.lo hj) ?_
        have hP : va_P g.1 vwCl (mdW g a v) H := hP
        have hD : va_D A (mdW g a v) := hD
        refine lv_sipush (v := nI 1000) hx hb dX5_floor_97 (by decide) ?_
        refine lv_iadd hx hb dX5_floor_100 ?_
        exact hend _ _ _ _ _ v dX5_floor_101 (⟨(show _ = floorN t j 3 from rfl).trans (o_floor_in hn8 hj (by omega)).symm, hX⟩) hP hD hS
      · refine lv_tableIn (off := 90) (tgt := 102) hx hb dX5_floor_12 (by decide) (by decide) (by decide) (by decide) ?_
        refine lv_aload_n hx hb dX5_floor_102 rfl (lv_at hl 0 rfl) ?_
        refine lv_iload_n hx hb dX5_floor_103 rfl (lv_at hl 1 rfl) ?_
        refine lv_iconst (v := nI 3) hx hb dX5_floor_104 (by decide) ?_
        refine sp_vi0 (n := 2) SF hK hA (c_X5_of l g a v j 3 (by omega) (by omega)) gX5_floor_X5_of rfl rfl rfl (by decide +kernel) rfl ⟨Nat.le_of_ble_eq_true rfl, Nat.le_of_ble_eq_true rfl⟩ 5 0 rfl rfl hP hD hS hl.1 rfl (Nat.le_of_ble_eq_true rfl) dX5_floor_105 (fun r9 u9 H locs w5 hP hD hS => ?_)
        subst w5
        refine sp_top (y := bI (sp_pp t j)) (hM.pp hj) ?_
        have hP : va_P g.1 vwCl (mdW g a v) H := hP
        have hD : va_D A (mdW g a v) := hD
        exact hend _ _ _ _ _ v dX5_floor_108 (⟨(show _ = floorN t j 4 from rfl).trans (o_floor_in hn8 hj (by omega)).symm, hX⟩) hP hD hS
      · refine lv_tableIn (off := 97) (tgt := 109) hx hb dX5_floor_12 (by decide) (by decide) (by decide) (by decide) ?_
        refine lv_aload_n hx hb dX5_floor_109 rfl (lv_at hl 0 rfl) ?_
        refine lv_iload_n hx hb dX5_floor_110 rfl (lv_at hl 1 rfl) ?_
        refine sp_vi0 (n := 1) SF hK hA (c_X5_force l g a v t hM hI j hj) gX5_floor_X5_force rfl rfl rfl (by decide +kernel) rfl ⟨Nat.le_of_ble_eq_true rfl, Nat.le_of_ble_eq_true rfl⟩ 5 0 rfl rfl hP hD hS hl.1 rfl (Nat.le_of_ble_eq_true rfl) dX5_floor_111 (fun r9 u9 H locs w6 hP hD hS => ?_)
        subst w6
        have hP : va_P g.1 vwCl (mdW g a v) H := hP
        have hD : va_D A (mdW g a v) := hD
        refine lv_sipush (v := nI 1000) hx hb dX5_floor_114 (by decide) ?_
        refine lv_iadd hx hb dX5_floor_117 ?_
        exact hend _ _ _ _ _ v dX5_floor_118 (⟨(show _ = floorN t j 5 from rfl).trans (o_floor_in hn8 hj (by omega)).symm, hX⟩) hP hD hS
      · refine lv_tableIn (off := 107) (tgt := 119) hx hb dX5_floor_12 (by decide) (by decide) (by decide) (by decide) ?_
        refine lv_aload_n hx hb dX5_floor_119 rfl (lv_at hl 0 rfl) ?_
        refine lv_iload_n hx hb dX5_floor_120 rfl (lv_at hl 1 rfl) ?_
        refine sp_vi0 (n := 1) SF hK hA (c_X5_lowest l g a v t hM hI j hj) gX5_floor_X5_lowest rfl rfl rfl (by decide +kernel) rfl ⟨Nat.le_of_ble_eq_true rfl, Nat.le_of_ble_eq_true rfl⟩ 5 0 rfl rfl hP hD hS hl.1 rfl (Nat.le_of_ble_eq_true rfl) dX5_floor_121 (fun r9 u9 H locs w7 hP hD hS => ?_)
        subst w7
        have hP : va_P g.1 vwCl (mdW g a v) H := hP
        have hD : va_D A (mdW g a v) := hD
        exact hend _ _ _ _ _ v dX5_floor_124 (⟨(show _ = floorN t j 6 from rfl).trans (o_floor_in hn8 hj (by omega)).symm, hX⟩) hP hD hS
      · refine lv_tableIn (off := 113) (tgt := 125) hx hb dX5_floor_12 (by decide) (by decide) (by decide) (by decide) ?_
        refine lv_aload_n hx hb dX5_floor_125 rfl (lv_at hl 0 rfl) ?_
        refine lv_iload_n hx hb dX5_floor_126 rfl (lv_at hl 1 rfl) ?_
        refine sp_vi0 (n := 1) SF hK hA (c_X5_highest l g a v t hM hI j hj) gX5_floor_X5_highest rfl rfl rfl (by decide +kernel) rfl ⟨Nat.le_of_ble_eq_true rfl, Nat.le_of_ble_eq_true rfl⟩ 5 0 rfl rfl hP hD hS hl.1 rfl (Nat.le_of_ble_eq_true rfl) dX5_floor_127 (fun r9 u9 H locs w8 hP hD hS => ?_)
        subst w8
        have hP : va_P g.1 vwCl (mdW g a v) H := hP
        have hD : va_D A (mdW g a v) := hD
        exact hend _ _ _ _ _ v dX5_floor_130 (⟨(show _ = floorN t j 7 from rfl).trans (o_floor_in hn8 hj (by omega)).symm, hX⟩) hP hD hS
      · refine lv_tableIn (off := 119) (tgt := 131) hx hb dX5_floor_12 (by decide) (by decide) (by decide) (by decide) ?_
        refine lv_aload_n hx hb dX5_floor_131 rfl (lv_at hl 0 rfl) ?_
        refine lv_iload_n hx hb dX5_floor_132 rfl (lv_at hl 1 rfl) ?_
        refine sp_vi0 (n := 1) SF hK hA (c_X5_isGrounded l g a v t hM hI j hj) gX5_floor_X5_isGrounded rfl rfl rfl (by decide +kernel) rfl ⟨Nat.le_of_ble_eq_true rfl, Nat.le_of_ble_eq_true rfl⟩ 5 0 rfl rfl hP hD hS hl.1 rfl (Nat.le_of_ble_eq_true rfl) dX5_floor_133 (fun r9 u9 H locs hb8 hP hD hS => ?_)
        obtain ⟨b8, rfl, hb8⟩ := hb8
        have hP : va_P g.1 vwCl (mdW g a v) H := hP
        have hD : va_D A (mdW g a v) := hD
        refine lv_if_eq (tgt := 143) hx hb dX5_floor_136 (by decide) (fun c8 => ?_) (fun c8 => ?_)
        · have c8 := sp_b0.mp c8
          refine lv_iconst (v := nI 0) hx hb dX5_floor_143 (by decide) ?_
          exact hend _ _ _ _ _ v dX5_floor_144 (⟨(show _ = floorN t j 8 from by show _ = bI (sp_gr t j); rw [← hb8, c8]; rfl).trans (o_floor_in hn8 hj (by omega)).symm, hX⟩) hP hD hS
        · have c8 := sp_b0n.mp c8
          refine lv_iconst (v := nI 1) hx hb dX5_floor_139 (by decide) ?_
          refine lv_goto (tgt := 144) hx hb dX5_floor_140 (by decide) ?_
          exact hend _ _ _ _ _ v dX5_floor_144 (⟨(show _ = floorN t j 8 from by show _ = bI (sp_gr t j); rw [← hb8, c8]; rfl).trans (o_floor_in hn8 hj (by omega)).symm, hX⟩) hP hD hS
      · refine lv_tableIn (off := 133) (tgt := 145) hx hb dX5_floor_12 (by decide) (by decide) (by decide) (by decide) ?_
        refine lv_aload_n hx hb dX5_floor_145 rfl (lv_at hl 0 rfl) ?_
        refine lv_iload_n hx hb dX5_floor_146 rfl (lv_at hl 1 rfl) ?_
        refine sp_vi0 (n := 1) SF hK hA (c_X5_earliest l g a v t hM hI (by omega) j hj) gX5_floor_X5_earliest rfl rfl rfl (by decide +kernel) rfl ⟨Nat.le_of_ble_eq_true rfl, Nat.le_of_ble_eq_true rfl⟩ 5 0 rfl rfl hP hD hS hl.1 rfl (Nat.le_of_ble_eq_true rfl) dX5_floor_147 (fun r9 x1 H locs hw1 hP hD hS => ?_)
        have hP : va_P g.1 vwCl (mdW g a (x1.1, x1.2.1, v.2.2.1, v.2.2.2.1, v.2.2.2.2.1, v.2.2.2.2.2.1, v.2.2.2.2.2.2.1, v.2.2.2.2.2.2.2.1, v.2.2.2.2.2.2.2.2.1, v.2.2.2.2.2.2.2.2.2.1, x1.2.2)) H := hP
        have hD : va_D A (mdW g a (x1.1, x1.2.1, v.2.2.1, v.2.2.2.1, v.2.2.2.2.1, v.2.2.2.2.2.1, v.2.2.2.2.2.2.1, v.2.2.2.2.2.2.2.1, v.2.2.2.2.2.2.2.2.1, v.2.2.2.2.2.2.2.2.2.1, x1.2.2)) := hD
        exact hend _ _ _ _ _ (x1.1, x1.2.1, v.2.2.1, v.2.2.2.1, v.2.2.2.2.1, v.2.2.2.2.2.1, v.2.2.2.2.2.2.1, v.2.2.2.2.2.2.2.1, v.2.2.2.2.2.2.2.2.1, v.2.2.2.2.2.2.2.2.2.1, x1.2.2) dX5_floor_150 (⟨hw1.1.trans (o_floor_in (t := t) (k := 9) hn8 hj (by omega)).symm, sp_M_ext hX hn8 hw1.2⟩) hP hD hS
      · refine lv_tableIn (off := 139) (tgt := 151) hx hb dX5_floor_12 (by decide) (by decide) (by decide) (by decide) ?_
        refine lv_aload_n hx hb dX5_floor_151 rfl (lv_at hl 0 rfl) ?_
        refine lv_iload_n hx hb dX5_floor_152 rfl (lv_at hl 1 rfl) ?_
        refine sp_vi0 (n := 1) SF hK hA (c_X5_harm l g a v t hM hI j hj) gX5_floor_X5_harm rfl rfl rfl (by decide +kernel) rfl ⟨Nat.le_of_ble_eq_true rfl, Nat.le_of_ble_eq_true rfl⟩ 5 0 rfl rfl hP hD hS hl.1 rfl (Nat.le_of_ble_eq_true rfl) dX5_floor_153 (fun r9 x1 H locs hw1 hP hD hS => ?_)
        have hP : va_P g.1 vwCl (mdW g a (x1.1, x1.2.1, v.2.2.1, v.2.2.2.1, v.2.2.2.2.1, v.2.2.2.2.2.1, v.2.2.2.2.2.2.1, v.2.2.2.2.2.2.2.1, v.2.2.2.2.2.2.2.2.1, v.2.2.2.2.2.2.2.2.2.1, x1.2.2)) H := hP
        have hD : va_D A (mdW g a (x1.1, x1.2.1, v.2.2.1, v.2.2.2.1, v.2.2.2.2.1, v.2.2.2.2.2.1, v.2.2.2.2.2.2.1, v.2.2.2.2.2.2.2.1, v.2.2.2.2.2.2.2.2.1, v.2.2.2.2.2.2.2.2.2.1, x1.2.2)) := hD
        exact hend _ _ _ _ _ (x1.1, x1.2.1, v.2.2.1, v.2.2.2.1, v.2.2.2.2.1, v.2.2.2.2.2.1, v.2.2.2.2.2.2.1, v.2.2.2.2.2.2.2.1, v.2.2.2.2.2.2.2.2.1, v.2.2.2.2.2.2.2.2.2.1, x1.2.2) dX5_floor_156 (⟨hw1.1.trans (o_floor_in (t := t) (k := 10) hn8 hj (by omega)).symm, sp_M_ext hX hn8 hw1.2⟩) hP hD hS
    · refine lv_tableOut (tgt := 157) hx hb dX5_floor_12 (by omega) (by decide) ?_
      refine lv_ldc (v := (-1000000002)) hx hb hown (hts _ (List.mem_of_getElem? (i := 2) rfl)) dX5_floor_157 ?_
      exact hend _ _ _ _ _ v dX5_floor_159 (⟨(o_floor_out hn8 hj hsw).symm, hX⟩) hP hD hS
  · have c1 := sp_b0.mp c1
    refine lv_ldc (v := (-1000000001)) hx hb hown (hts _ (List.mem_of_getElem? (i := 1) rfl)) dX5_floor_8 ?_
    exact hend _ _ _ _ _ v dX5_floor_10 (⟨(o_floor_u (hbb.symm.trans c1)).symm, hX⟩) hP hD hS

set_option maxHeartbeats 4000000 in
set_option maxRecDepth 100000 in
theorem c_X5_hundredths (l : Launch) (g : sp_G) (a : sp_A9) (v : sp_V) (x : sp_S) (hX : sp_M v x) (B : Nat) (hJ : sp_J x B) (hB : B ≤ 150000) (i0 w0 : Int32) : sp_CI l g yX5_hundredths wsX5_hundredths ({ frames := 1, cells := 0, slots := 0, locals := 23 }) [.ref a.1, .int i0, .int w0] (mdW g a v) (fun r (w : sp_V) => r = o_hun i0 w0 ∧ sp_M w x) (fun w => mdW g a w) := by
  obtain ⟨t, z⟩ := x
  refine sp_CI.of (cc := cX5_hundredths) (maxL := 3) (by decide) rfl (Nat.le_of_ble_eq_true rfl) ?_
  intro p e s m below meth c Q A ls SF hK hP hD hA hl hend
  have hx := SF.1
  have hb := SF.2.1
  have hown : s.vm.findClass RX5 = some m.cls := SF.2.2.2.1
  have hts := SF.2.2.2.2
  have hS : va_S A s.heap s.heap [] := va_S.rf
  have hl : lv_has ls 3 [(0, .ref a.1), (1, .int i0), (2, .int w0)] := hl
  have hM : sp_Rm v.1 t := hX.now
  have hI : sp_I t := hJ.now
  have hn8 := hI.n
  have hdB : td t ≤ B := hJ.d
  refine lv_iload_n hx hb dX5_hundredths_0 rfl (lv_at hl 1 rfl) ?_
  refine lv_iconst (v := nI 0) hx hb dX5_hundredths_1 (by decide) ?_
  refine lv_iconst (v := nI 2) hx hb dX5_hundredths_2 (by decide) ?_
  refine sp_si (n := 3) (wc := []) (wr := (mdW g a v)) SF hK hA (c_X5_in l g i0 (nI 0) (nI 2)) gX5_hundredths_X5_in rfl rfl rfl (by decide +kernel) rfl ⟨Nat.le_of_ble_eq_true rfl, Nat.le_of_ble_eq_true rfl⟩ hP hD hS hl.1 rfl (Nat.le_of_ble_eq_true rfl) dX5_hundredths_3 (fun r9 u9 H locs hbb hP hD hS => ?_)
  obtain ⟨bb, rfl, hbb⟩ := hbb
  have hP : va_P g.1 vwCl (mdW g a v) H := hP
  have hD : va_D A (mdW g a v) := hD
  refine lv_if_eq (tgt := 28) hx hb dX5_hundredths_6 (by decide) (fun c1 => ?_) (fun c1 => ?_)
  · have c1 := sp_b0.mp c1
    refine lv_ldc (v := (-1000000002)) hx hb hown (hts _ (List.mem_of_getElem? (i := 1) rfl)) dX5_hundredths_28 ?_
    exact hend _ _ _ _ _ v dX5_hundredths_30 (⟨by first | exact (o_hun_in h2 h4).symm | exact (o_hun_o1 (hbb.symm.trans c1)).symm | exact (o_hun_o2 (hb2.symm.trans c2)).symm, hX⟩) hP hD hS
  · have c1 := sp_b0n.mp c1
    refine lv_iload_n hx hb dX5_hundredths_9 rfl (lv_at hl 2 rfl) ?_
    refine lv_iconst (v := nI 0) hx hb dX5_hundredths_10 (by decide) ?_
    refine lv_sipush (v := nI 999) hx hb dX5_hundredths_11 (by decide) ?_
    refine sp_si (n := 3) (wc := []) (wr := (mdW g a v)) SF hK hA (c_X5_in l g w0 (nI 0) (nI 999)) gX5_hundredths_X5_in rfl rfl rfl (by decide +kernel) rfl ⟨Nat.le_of_ble_eq_true rfl, Nat.le_of_ble_eq_true rfl⟩ hP hD hS hl.1 rfl (Nat.le_of_ble_eq_true rfl) dX5_hundredths_14 (fun r9 u9 H locs hb2 hP hD hS => ?_)
    obtain ⟨b2, rfl, hb2⟩ := hb2
    have hP : va_P g.1 vwCl (mdW g a v) H := hP
    have hD : va_D A (mdW g a v) := hD
    refine lv_if_eq (tgt := 28) hx hb dX5_hundredths_17 (by decide) (fun c2 => ?_) (fun c2 => ?_)
    · have c2 := sp_b0.mp c2
      refine lv_ldc (v := (-1000000002)) hx hb hown (hts _ (List.mem_of_getElem? (i := 1) rfl)) dX5_hundredths_28 ?_
      exact hend _ _ _ _ _ v dX5_hundredths_30 (⟨by first | exact (o_hun_in h2 h4).symm | exact (o_hun_o1 (hbb.symm.trans c1)).symm | exact (o_hun_o2 (hb2.symm.trans c2)).symm, hX⟩) hP hD hS
    · have c2 := sp_b0n.mp c2
      obtain ⟨p1, h1, h2, rfl⟩ := sp_inI_t (by omega) (by omega) (hbb.symm.trans c1)
      obtain ⟨p2, h3, h4, rfl⟩ := sp_inI_t (by omega) (by omega) (hb2.symm.trans c2)
      refine lv_iload_n hx hb dX5_hundredths_20 rfl (lv_at hl 1 rfl) ?_
      refine lv_iload_n hx hb dX5_hundredths_21 rfl (lv_at hl 2 rfl) ?_
      refine sp_si (n := 2) (wc := []) (wr := (mdW g a v)) SF hK hA (c_X5_hundredthsBy l g p1 p2 h2 (by omega)) gX5_hundredths_X5_hundredthsBy rfl rfl rfl (by decide +kernel) rfl ⟨Nat.le_of_ble_eq_true rfl, Nat.le_of_ble_eq_true rfl⟩ hP hD hS hl.1 rfl (Nat.le_of_ble_eq_true rfl) dX5_hundredths_22 (fun r9 u9 H locs w1 hP hD hS => ?_)
      subst w1
      have hP : va_P g.1 vwCl (mdW g a v) H := hP
      have hD : va_D A (mdW g a v) := hD
      refine lv_goto (tgt := 30) hx hb dX5_hundredths_25 (by decide) ?_
      exact hend _ _ _ _ _ v dX5_hundredths_30 (⟨by first | exact (o_hun_in h2 h4).symm | exact (o_hun_o1 (hbb.symm.trans c1)).symm | exact (o_hun_o2 (hb2.symm.trans c2)).symm, hX⟩) hP hD hS

set_option maxHeartbeats 4000000 in
set_option maxRecDepth 100000 in
theorem c_X5_would (l : Launch) (g : sp_G) (a : sp_A9) (v : sp_V) (x : sp_S) (hX : sp_M v x) (B : Nat) (hJ : sp_J x B) (hB : B ≤ 150000) (i0 w0 : Int32) : sp_CI l g yX5_would wsX5_would ({ frames := 6, cells := 0, slots := 0, locals := 136 }) [.ref a.1, .int i0, .int w0] (mdW g a v) (fun r (w : sp_V) => r = o_would (s_now x) i0 w0 ∧ sp_M w x) (fun w => mdW g a w) := by
  obtain ⟨t, z⟩ := x
  refine sp_CI.of (cc := cX5_would) (maxL := 4) (by decide) rfl (Nat.le_of_ble_eq_true rfl) ?_
  intro p e s m below meth c Q A ls SF hK hP hD hA hl hend
  have hx := SF.1
  have hb := SF.2.1
  have hown : s.vm.findClass RX5 = some m.cls := SF.2.2.2.1
  have hts := SF.2.2.2.2
  have hS : va_S A s.heap s.heap [] := va_S.rf
  have inX5 : ∀ w ∈ wsX50, w ∈ wsX5_would := fun w h => List.mem_cons_of_mem _ (List.mem_append_right _ h)
  have hl : lv_has ls 4 [(0, .ref a.1), (1, .int i0), (2, .int w0)] := hl
  have hM : sp_Rm v.1 t := hX.now
  have hI : sp_I t := hJ.now
  have hn8 := hI.n
  have hdB : td t ≤ B := hJ.d
  refine lv_aload_n hx hb dX5_would_0 rfl (lv_at hl 0 rfl) ?_
  refine lv_iload_n hx hb dX5_would_1 rfl (lv_at hl 1 rfl) ?_
  refine sp_vi0 (n := 1) SF hK hA (c_X5_isFloor l g a v t hM hI i0) gX5_would_X5_isFloor rfl rfl rfl (by decide +kernel) rfl ⟨Nat.le_of_ble_eq_true rfl, Nat.le_of_ble_eq_true rfl⟩ 5 0 rfl rfl hP hD hS hl.1 rfl (Nat.le_of_ble_eq_true rfl) dX5_would_2 (fun r9 u9 H locs hbb hP hD hS => ?_)
  obtain ⟨bb, rfl, hbb⟩ := hbb
  have hP : va_P g.1 vwCl (mdW g a v) H := hP
  have hD : va_D A (mdW g a v) := hD
  refine lv_if_eq (tgt := 24) hx hb dX5_would_5 (by decide) (fun c1 => ?_) (fun c1 => ?_)
  · have c1 := sp_b0.mp c1
    refine lv_ldc (v := (-1000000001)) hx hb hown (hts _ (List.mem_of_getElem? (i := 1) rfl)) dX5_would_24 ?_
    exact hend _ _ _ _ _ v dX5_would_26 (⟨by first | exact (o_would_1 (hbb.symm.trans c1)).symm | exact (o_would_2 (hb2.symm.trans c2)).symm | exact (o_would_3 hn8 hj (hb3.symm.trans c3)).symm, hX⟩) hP hD hS
  · have c1 := sp_b0n.mp c1
    obtain ⟨j, hj, rfl⟩ := sp_has_t (hbb.symm.trans c1) hn8
    refine lv_aload_n hx hb dX5_would_8 rfl (lv_at hl 0 rfl) ?_
    refine lv_iload_n hx hb dX5_would_9 rfl (lv_at hl 2 rfl) ?_
    refine sp_vi0 (n := 1) SF hK hA (c_X5_isFloor l g a v t hM hI w0) gX5_would_X5_isFloor rfl rfl rfl (by decide +kernel) rfl ⟨Nat.le_of_ble_eq_true rfl, Nat.le_of_ble_eq_true rfl⟩ 5 0 rfl rfl hP hD hS hl.1 rfl (Nat.le_of_ble_eq_true rfl) dX5_would_10 (fun r9 u9 H locs hb2 hP hD hS => ?_)
    obtain ⟨b2, rfl, hb2⟩ := hb2
    have hP : va_P g.1 vwCl (mdW g a v) H := hP
    have hD : va_D A (mdW g a v) := hD
    refine lv_if_eq (tgt := 24) hx hb dX5_would_13 (by decide) (fun c2 => ?_) (fun c2 => ?_)
    · have c2 := sp_b0.mp c2
      refine lv_ldc (v := (-1000000001)) hx hb hown (hts _ (List.mem_of_getElem? (i := 1) rfl)) dX5_would_24 ?_
      exact hend _ _ _ _ _ v dX5_would_26 (⟨by first | exact (o_would_1 (hbb.symm.trans c1)).symm | exact (o_would_2 (hb2.symm.trans c2)).symm | exact (o_would_3 hn8 hj (hb3.symm.trans c3)).symm, hX⟩) hP hD hS
    · have c2 := sp_b0n.mp c2
      obtain ⟨f, hf, rfl⟩ := sp_has_t (hb2.symm.trans c2) hn8
      refine lv_aload_n hx hb dX5_would_16 rfl (lv_at hl 0 rfl) ?_
      refine lv_iload_n hx hb dX5_would_17 rfl (lv_at hl 1 rfl) ?_
      refine sp_vi0 (n := 1) SF hK hA (c_X5_isPropped l g a v t hM hI j hj) gX5_would_X5_isPropped rfl rfl rfl (by decide +kernel) rfl ⟨Nat.le_of_ble_eq_true rfl, Nat.le_of_ble_eq_true rfl⟩ 5 0 rfl rfl hP hD hS hl.1 rfl (Nat.le_of_ble_eq_true rfl) dX5_would_18 (fun r9 u9 H locs hb3 hP hD hS => ?_)
      obtain ⟨b3, rfl, hb3⟩ := hb3
      have hP : va_P g.1 vwCl (mdW g a v) H := hP
      have hD : va_D A (mdW g a v) := hD
      refine lv_if_ne (tgt := 27) hx hb dX5_would_21 (by decide) (fun c3 => ?_) (fun c3 => ?_)
      · have c3 := sp_b0n.mp c3
        refine lv_aload_n hx hb dX5_would_27 rfl (lv_at hl 0 rfl) ?_
        refine sp_vv0 (n := 0) SF hK hA (c_X5_lays l g a v) gX5_would_X5_lays rfl rfl rfl (by decide +kernel) rfl ⟨Nat.le_of_ble_eq_true rfl, Nat.le_of_ble_eq_true rfl⟩ 5 0 rfl rfl hP hD hS hl.1 rfl (Nat.le_of_ble_eq_true rfl) dX5_would_28 (fun as1 H locs ha1 hP hD hS => ?_)
        have hP : va_P g.1 vwCl (mdW g a (v.1, as1, v.2.2.1, v.2.2.2.1, v.2.2.2.2.1, v.2.2.2.2.2.1, v.2.2.2.2.2.2.1, v.2.2.2.2.2.2.2.1, v.2.2.2.2.2.2.2.2.1, v.2.2.2.2.2.2.2.2.2.1, v.2.2.2.2.2.2.2.2.2.2)) H := hP
        have hD : va_D A (mdW g a (v.1, as1, v.2.2.1, v.2.2.2.1, v.2.2.2.2.1, v.2.2.2.2.2.1, v.2.2.2.2.2.2.1, v.2.2.2.2.2.2.2.1, v.2.2.2.2.2.2.2.2.1, v.2.2.2.2.2.2.2.2.2.1, v.2.2.2.2.2.2.2.2.2.2)) := hD
        refine lv_aload_n hx hb dX5_would_31 rfl (lv_at hl 0 rfl) ?_
        refine lv_iload_n hx hb dX5_would_32 rfl (lv_at hl 1 rfl) ?_
        refine sp_vv0 (n := 1) SF hK hA (c_X5_strikes l g a (v.1, as1, v.2.2.1, v.2.2.2.1, v.2.2.2.2.1, v.2.2.2.2.2.1, v.2.2.2.2.2.2.1, v.2.2.2.2.2.2.2.1, v.2.2.2.2.2.2.2.2.1, v.2.2.2.2.2.2.2.2.2.1, v.2.2.2.2.2.2.2.2.2.2) t hM hI j hj) gX5_would_X5_strikes rfl rfl rfl (by decide +kernel) rfl ⟨Nat.le_of_ble_eq_true rfl, Nat.le_of_ble_eq_true rfl⟩ 5 0 rfl rfl hP hD hS hl.1 rfl (Nat.le_of_ble_eq_true rfl) dX5_would_33 (fun x1 H locs hs1 hP hD hS => ?_)
        have hP : va_P g.1 vwCl (mdW g a (x1.1, as1, v.2.2.1, v.2.2.2.1, v.2.2.2.2.1, v.2.2.2.2.2.1, v.2.2.2.2.2.2.1, v.2.2.2.2.2.2.2.1, v.2.2.2.2.2.2.2.2.1, v.2.2.2.2.2.2.2.2.2.1, x1.2)) H := hP
        have hD : va_D A (mdW g a (x1.1, as1, v.2.2.1, v.2.2.2.1, v.2.2.2.2.1, v.2.2.2.2.2.1, v.2.2.2.2.2.2.1, v.2.2.2.2.2.2.2.1, v.2.2.2.2.2.2.2.2.1, v.2.2.2.2.2.2.2.2.2.1, x1.2)) := hD
        refine lv_aload_n hx hb dX5_would_36 rfl (lv_at hl 0 rfl) ?_
        refine lv_iload_n hx hb dX5_would_37 rfl (lv_at hl 2 rfl) ?_
        refine lv_iconst (v := nI 2) hx hb dX5_would_38 (by decide) ?_
        refine sp_vi0 (n := 2) SF hK hA (c_X5_of l g a (x1.1, as1, v.2.2.1, v.2.2.2.1, v.2.2.2.2.1, v.2.2.2.2.2.1, v.2.2.2.2.2.2.1, v.2.2.2.2.2.2.2.1, v.2.2.2.2.2.2.2.2.1, v.2.2.2.2.2.2.2.2.2.1, x1.2) f 2 (by omega) (by omega)) gX5_would_X5_of rfl rfl rfl (by decide +kernel) rfl ⟨Nat.le_of_ble_eq_true rfl, Nat.le_of_ble_eq_true rfl⟩ 5 0 rfl rfl hP hD hS hl.1 rfl (Nat.le_of_ble_eq_true rfl) dX5_would_39 (fun r9 u9 H locs w1 hP hD hS => ?_)
        subst w1
        refine sp_top (y := tlo (sp_stk t j) f) (hs1.lo (k := f) (by rw [sp_stk_n]; omega)) ?_
        have hP : va_P g.1 vwCl (mdW g a (x1.1, as1, v.2.2.1, v.2.2.2.1, v.2.2.2.2.1, v.2.2.2.2.2.1, v.2.2.2.2.2.2.1, v.2.2.2.2.2.2.2.1, v.2.2.2.2.2.2.2.2.1, v.2.2.2.2.2.2.2.2.2.1, x1.2)) H := hP
        have hD : va_D A (mdW g a (x1.1, as1, v.2.2.1, v.2.2.2.1, v.2.2.2.2.1, v.2.2.2.2.2.1, v.2.2.2.2.2.2.1, v.2.2.2.2.2.2.2.1, v.2.2.2.2.2.2.2.2.1, v.2.2.2.2.2.2.2.2.2.1, x1.2)) := hD
        refine lv_sipush (v := nI 1000) hx hb dX5_would_42 (by decide) ?_
        refine lv_iadd hx hb dX5_would_45 ?_
        refine lv_istore_n (lv' := [(3, .int ((tlo (sp_stk t j) f) + (nI 1000))), (0, .ref a.1), (1, .int (nI j)), (2, .int (nI f))]) hx hb dX5_would_46 rfl hl (by decide) rfl (fun ls hl => ?_)
        refine lv_aload_n hx hb dX5_would_47 rfl (lv_at hl 1 rfl) ?_
        refine sp_vv0 (n := 0) SF hK hA (c_X5_takesBack l g a (x1.1, as1, v.2.2.1, v.2.2.2.1, v.2.2.2.2.1, v.2.2.2.2.2.1, v.2.2.2.2.2.2.1, v.2.2.2.2.2.2.2.1, v.2.2.2.2.2.2.2.2.1, v.2.2.2.2.2.2.2.2.2.1, x1.2)) gX5_would_X5_takesBack rfl rfl rfl (by decide +kernel) rfl ⟨Nat.le_of_ble_eq_true rfl, Nat.le_of_ble_eq_true rfl⟩ 5 0 rfl rfl hP hD hS hl.1 rfl (Nat.le_of_ble_eq_true rfl) dX5_would_48 (fun nw1 H locs hb1 hP hD hS => ?_)
        have hP : va_P g.1 vwCl (mdW g a (nw1, as1, v.2.2.1, v.2.2.2.1, v.2.2.2.2.1, v.2.2.2.2.2.1, v.2.2.2.2.2.2.1, v.2.2.2.2.2.2.2.1, v.2.2.2.2.2.2.2.2.1, v.2.2.2.2.2.2.2.2.2.1, x1.2)) H := hP
        have hD : va_D A (mdW g a (nw1, as1, v.2.2.1, v.2.2.2.1, v.2.2.2.2.1, v.2.2.2.2.2.1, v.2.2.2.2.2.2.1, v.2.2.2.2.2.2.2.1, v.2.2.2.2.2.2.2.2.1, v.2.2.2.2.2.2.2.2.2.1, x1.2)) := hD
        refine lv_iload_n hx hb dX5_would_51 rfl (lv_at hl 0 rfl) ?_
        exact hend _ _ _ _ _ (nw1, as1, v.2.2.1, v.2.2.2.1, v.2.2.2.2.1, v.2.2.2.2.2.1, v.2.2.2.2.2.2.1, v.2.2.2.2.2.2.2.1, v.2.2.2.2.2.2.2.2.1, v.2.2.2.2.2.2.2.2.2.1, x1.2) dX5_would_52 (⟨(o_would_in hn8 hj hf (hb3.symm.trans c3)).symm, sp_M_ext hX hn8 (fun j5 hj5 => (hb1 j5 hj5).trans (ha1 j5 hj5))⟩) hP hD hS
      · have c3 := sp_b0.mp c3
        refine lv_ldc (v := (-1000000001)) hx hb hown (hts _ (List.mem_of_getElem? (i := 1) rfl)) dX5_would_24 ?_
        exact hend _ _ _ _ _ v dX5_would_26 (⟨by first | exact (o_would_1 (hbb.symm.trans c1)).symm | exact (o_would_2 (hb2.symm.trans c2)).symm | exact (o_would_3 hn8 hj (hb3.symm.trans c3)).symm, hX⟩) hP hD hS

