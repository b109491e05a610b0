set_option maxHeartbeats 4000000 in
set_option maxRecDepth 100000 in
/-- percentAt -/
theorem c_X4_percentAt (l : Launch) (g : sp_G) (tb r : Nat) (htb : tb ≤ 2) (hr : r ≤ 2000000) : sp_CI l g yX4_percentAt wsX4_percentAt ({ frames := 0, cells := 0, slots := 0, locals := 0 }) [.int (nI tb), .int (nI r)] ([]) (fun z (_ : Unit) => z = nI (sp_pct tb r)) (fun _ => []) := by
  refine sp_CI.of (cc := cX4_percentAt) (maxL := 5) (by decide) rfl (Nat.le_of_ble_eq_true rfl) ?_
  intro p e s m below meth c Q A ls SF hK hP hD hA hl hend
  have hx := SF.1
  have hb := SF.2.1
  have hown : s.vm.findClass RX4 = some m.cls := SF.2.2.2.1
  have hts := SF.2.2.2.2
  have hS : va_S A s.heap s.heap [] := va_S.rf
  have hl : lv_has ls 5 [(0, .int (nI tb)), (1, .int (nI r))] := hl
  refine lv_iload_n hx hb dX4_percentAt_0 rfl (lv_at hl 1 rfl) ?_
  refine lv_if_gt (tgt := 6) hx hb dX4_percentAt_1 (by decide) (fun c1 => ?_) (fun c1 => ?_)
  · have c1 := (sp_z_gt (by omega)).mp c1
    refine lv_iload_n hx hb dX4_percentAt_6 rfl (lv_at hl 0 rfl) ?_
    rcases (show tb = 0 ∨ tb = 1 ∨ tb = 2 by omega) with rfl | rfl | rfl
    · refine lv_lookup (off := 25) (tgt := 32) hx hb dX4_percentAt_7 (by decide) (by decide) (by decide) ?_
      refine lv_ldc2 (v := lN 100) hx hb hown (hts _ (List.mem_of_getElem? (i := 1) rfl)) dX4_percentAt_32 ?_
      refine lv_iload_n hx hb dX4_percentAt_35 rfl (lv_at hl 1 rfl) ?_
      refine lv_i2l (v := lN r) hx hb dX4_percentAt_36 (nI_l (by omega)) ?_
      refine lv_lmul hx hb dX4_percentAt_37 ?_
      refine lv_iload_n hx hb dX4_percentAt_38 rfl (lv_at hl 1 rfl) ?_
      refine lv_i2l (v := lN r) hx hb dX4_percentAt_39 (nI_l (by omega)) ?_
      refine lv_ldc2 (v := lN 4) hx hb hown (hts _ (List.mem_of_getElem? (i := 2) rfl)) dX4_percentAt_40 ?_
      refine lv_ladd hx hb dX4_percentAt_43 ?_
      refine lv_ldiv hx hb dX4_percentAt_44 (by rw [lN_add]; exact sp_lne (by omega) (by omega)) ?_
      refine lv_l2i (v := (((lN 100) * (lN r)) / ((lN r) + (lN 4))).toInt32) hx hb dX4_percentAt_45 (rfl) ?_
      refine sp_top (y := nI (sp_pct 0 r)) (sp_pct0 hr) ?_
      exact hend _ _ _ _ _ () dX4_percentAt_46 (rfl) hP hD hS
    · refine lv_lookup (off := 40) (tgt := 47) hx hb dX4_percentAt_7 (by decide) (by decide) (by decide) ?_
      refine lv_iload_n hx hb dX4_percentAt_47 rfl (lv_at hl 1 rfl) ?_
      refine lv_bipush (v := nI 10) hx hb dX4_percentAt_48 (by decide) ?_
      refine lv_icmp_lt (tgt := 58) hx hb dX4_percentAt_50 (by decide) (fun c2 => ?_) (fun c2 => ?_)
      · have c2 := (nI_ltI (by omega) (by omega)).mp c2
        refine lv_bipush (v := nI 10) hx hb dX4_percentAt_58 (by decide) ?_
        refine lv_iload_n hx hb dX4_percentAt_60 rfl (lv_at hl 1 rfl) ?_
        refine lv_imul hx hb dX4_percentAt_61 ?_
        refine sp_top (y := nI (10 * r)) (sp_mul _ _) ?_
        exact hend _ _ _ _ _ () dX4_percentAt_62 (by unfold sp_pct; simp only [show ¬ (1 : Nat) = 0 by omega, if_false, if_true]; split <;> first | rfl | omega) hP hD hS
      · have c2 := mt (nI_ltI (by omega) (by omega)).mpr c2
        refine lv_bipush (v := nI 100) hx hb dX4_percentAt_53 (by decide) ?_
        refine lv_goto (tgt := 62) hx hb dX4_percentAt_55 (by decide) ?_
        exact hend _ _ _ _ _ () dX4_percentAt_62 (by unfold sp_pct; simp only [show ¬ (1 : Nat) = 0 by omega, if_false, if_true]; split <;> first | rfl | omega) hP hD hS
    · refine lv_lookup (off := 56) (tgt := 63) hx hb dX4_percentAt_7 (by decide) (by decide) (by decide) ?_
      refine lv_bipush (v := nI 20) hx hb dX4_percentAt_63 (by decide) ?_
      refine lv_istore_n (lv' := [(2, .int (nI 20)), (0, .int (nI 2)), (1, .int (nI r))]) hx hb dX4_percentAt_65 rfl hl (by decide) rfl (fun ls hl => ?_)
      refine lv_iload_n hx hb dX4_percentAt_66 rfl (lv_at hl 2 rfl) ?_
      refine lv_istore_n (lv' := [(3, .int (nI r)), (2, .int (nI 20)), (0, .int (nI 2)), (1, .int (nI r))]) hx hb dX4_percentAt_67 rfl hl (by decide) rfl (fun ls hl => ?_)
      refine lv_iconst (v := nI 0) hx hb dX4_percentAt_68 (by decide) ?_
      refine lv_istore (lv' := [(4, .int (nI 0)), (3, .int (nI r)), (2, .int (nI 20)), (0, .int (nI 2)), (1, .int (nI r))]) hx hb dX4_percentAt_69 hl (by decide) rfl (fun ls hl => ?_)
      have hloop71 : ∀ (n71 : Nat) (j : Nat) (v : Nat) (rs : Nat) (H : Heap) (locs : List Loc) (ls : Array Slot), (j ≤ 4) → (rs ≤ 2000000) → (v + 20 * sp_hv (4 - j) rs = 20 + 20 * sp_hv 4 r) → (v ≤ 20 + 20 * j) → 4 - j < n71 → va_P g.1 vwCl ([]) H → va_D A ([]) → va_S A s.heap H locs → lv_has ls 5 [(0, .int (nI 2)), (1, .int (nI r)), (2, .int (nI v)), (3, .int (nI rs)), (4, .int (nI j))] → W p l e ({ frames := 0, cells := 0, slots := 0, locals := 0 }) s m ([.int (nI 2), .int (nI r)] : List Value).toArray below meth c H locs 0 0 Q (F0 m 71 ls []) := by
        intro n71
        induction n71 with
        | zero =>
          intro j v rs H locs ls hj hrs hv hv2 h9
          exact absurd h9 (Nat.not_lt_zero _)
        | succ n71 ih71 =>
          intro j v rs H locs ls hj hrs hv hv2 hm71 hP hD hS hl
          refine lv_iload hx hb dX4_percentAt_71 (lv_at hl 4 rfl) ?_
          refine lv_iconst (v := nI 4) hx hb dX4_percentAt_73 (by decide) ?_
          refine lv_icmp_ge (tgt := 95) hx hb dX4_percentAt_74 (by decide) (fun c3 => ?_) (fun c3 => ?_)
          · have c3 := (nI_leI (by omega) (by omega)).mp c3
            refine lv_iload_n hx hb dX4_percentAt_95 rfl (lv_at hl 2 rfl) ?_
            exact hend _ _ _ _ _ () dX4_percentAt_96 (by first | (rw [sp_hv_end (by omega)] at hv; unfold sp_pct; rw [if_neg (by omega), if_neg (by omega), if_neg (by omega), ← hv]; first | done | rfl) | (rw [show 4 - j = 0 by omega] at hv; unfold sp_pct; rw [if_neg (by omega), if_neg (by omega), if_neg (by omega), ← hv]; first | done | rfl)) hP hD hS
          · have c3 := mt (nI_leI (by omega) (by omega)).mpr c3
            refine lv_iload_n hx hb dX4_percentAt_77 rfl (lv_at hl 3 rfl) ?_
            refine lv_iconst (v := nI 1) hx hb dX4_percentAt_78 (by decide) ?_
            refine lv_icmp_le (tgt := 95) hx hb dX4_percentAt_79 (by decide) (fun c4 => ?_) (fun c4 => ?_)
            · have c4 := (nI_leI (by omega) (by omega)).mp c4
              refine lv_iload_n hx hb dX4_percentAt_95 rfl (lv_at hl 2 rfl) ?_
              exact hend _ _ _ _ _ () dX4_percentAt_96 (by first | (rw [sp_hv_end (by omega)] at hv; unfold sp_pct; rw [if_neg (by omega), if_neg (by omega), if_neg (by omega), ← hv]; first | done | rfl) | (rw [show 4 - j = 0 by omega] at hv; unfold sp_pct; rw [if_neg (by omega), if_neg (by omega), if_neg (by omega), ← hv]; first | done | rfl)) hP hD hS
            · have c4 := mt (nI_leI (by omega) (by omega)).mpr c4
              have c4 : 1 < rs := by omega
              refine lv_iload_n hx hb dX4_percentAt_82 rfl (lv_at hl 3 rfl) ?_
              refine lv_iconst (v := nI 2) hx hb dX4_percentAt_83 (by decide) ?_
              refine lv_idiv hx hb dX4_percentAt_84 (sp_ne (by omega) (by omega)) ?_
              refine sp_top (y := nI (rs / 2)) (sp_div (by omega) (by omega) (by omega)) ?_
              refine lv_istore_n (lv' := [(3, .int (nI (rs / 2))), (0, .int (nI 2)), (1, .int (nI r)), (2, .int (nI v)), (4, .int (nI j))]) hx hb dX4_percentAt_85 rfl hl (by decide) rfl (fun ls hl => ?_)
              refine lv_iinc (v := nI (v + 20)) (lv' := [(2, .int (nI (v + 20))), (3, .int (nI (rs / 2))), (0, .int (nI 2)), (1, .int (nI r)), (4, .int (nI j))]) hx hb dX4_percentAt_86 hl (k := 3) rfl (nI_add v 20) (by decide) rfl (fun ls hl => ?_)
              refine lv_iinc (v := nI (j + 1)) (lv' := [(4, .int (nI (j + 1))), (2, .int (nI (v + 20))), (3, .int (nI (rs / 2))), (0, .int (nI 2)), (1, .int (nI r))]) hx hb dX4_percentAt_89 hl (k := 4) rfl (nI_1 j) (by decide) rfl (fun ls hl => ?_)
              refine lv_goto (tgt := 71) hx hb dX4_percentAt_92 (by decide) ?_
              exact ih71 (j + 1) (v + 20) (rs / 2) _ _ _ (by omega) (by omega) (by rw [sp_hv_step (by omega) c4] at hv; rw [show 4 - (j + 1) = 4 - j - 1 by omega]; omega) (by omega) (by omega) hP hD hS (lv_sub hl [3, 4, 1, 2, 0] rfl)
      exact hloop71 (_ + 1) 0 20 r _ _ _ (by omega) (hr) (rfl) (by omega) (Nat.lt_succ_self _) hP hD hS (lv_sub hl [3, 4, 2, 1, 0] rfl)
  · have c1 := mt (sp_z_gt (by omega)).mpr c1
    refine lv_iconst (v := nI 0) hx hb dX4_percentAt_4 (by decide) ?_
    exact hend _ _ _ _ _ () dX4_percentAt_5 (by rw [show r = 0 by omega]; unfold sp_pct; split <;> (try split) <;> rfl) hP hD hS

set_option maxHeartbeats 4000000 in
set_option maxRecDepth 100000 in
theorem c_X3_has (l : Launch) (g : sp_G) (a : sp_A) (u : sp_U) (t : sp_T) (hR : sp_R u t) (hI : sp_I t) (x : Int32) : sp_CB l g yX3_has wsX3_has ({ frames := 0, cells := 0, slots := 0, locals := 0 }) [.ref a.1, .int x] (twW g a u) (fun b (_ : Unit) => b = sp_has x (tn t)) (fun _ => twW g a u) := by
  refine sp_CB.of (cc := cX3_has) (maxL := 2) (by decide) rfl (Nat.le_of_ble_eq_true rfl) ?_
  intro p e s m below meth c Q A ls SF hK hP hD hA hl hend
  have hx := SF.1
  have hb := SF.2.1
  have hown : s.vm.findClass RX3 = some m.cls := SF.2.2.2.1
  have hts := SF.2.2.2.2
  have hS : va_S A s.heap s.heap [] := va_S.rf
  have inX3 : ∀ w ∈ wsX30, w ∈ wsX3_has := fun w h => List.mem_cons_of_mem _ (List.mem_append_right _ h)
  have hl : lv_has ls 2 [(0, .ref a.1), (1, .int x)] := hl
  have hn8 := hI.n
  refine lv_iload_n hx hb dX3_has_0 rfl (lv_at hl 1 rfl) ?_
  refine lv_if_lt (tgt := 16) hx hb dX3_has_1 (by decide) (fun c1 => ?_) (fun c1 => ?_)
  · refine lv_iconst (v := bI false) hx hb dX3_has_16 (by decide) ?_
    exact hend _ _ _ _ false () dX3_has_17 (by first | exact sp_in1 c1 | exact sp_in2 hn8 c2 | exact sp_in3 hn8 c1 c2) hP hD hS
  · refine lv_iload_n hx hb dX3_has_4 rfl (lv_at hl 1 rfl) ?_
    refine lv_aload_n hx hb dX3_has_5 rfl (lv_at hl 0 rfl) ?_
    refine va_get (D := g.1) (ci := 3) (v := .int u.2.2.2.2.2.2.1) (C := RX3) (T := TX3) (N := 8) hx hb hts inX3 hown hK.1 hP 0 rfl rfl 6 (by decide) (hts _ (List.mem_of_getElem? (i := 1) rfl)) (fun _ h9 => h9) rfl dX3_has_6 ?_
    refine sp_top (y := nI (tn t)) (hR.cnt) ?_
    refine lv_icmp_ge (tgt := 16) hx hb dX3_has_9 (by decide) (fun c2 => ?_) (fun c2 => ?_)
    · refine lv_iconst (v := bI false) hx hb dX3_has_16 (by decide) ?_
      exact hend _ _ _ _ false () dX3_has_17 (by first | exact sp_in1 c1 | exact sp_in2 hn8 c2 | exact sp_in3 hn8 c1 c2) hP hD hS
    · refine lv_iconst (v := bI true) hx hb dX3_has_12 (by decide) ?_
      refine lv_goto (tgt := 17) hx hb dX3_has_13 (by decide) ?_
      exact hend _ _ _ _ true () dX3_has_17 (by first | exact sp_in1 c1 | exact sp_in2 hn8 c2 | exact sp_in3 hn8 c1 c2) hP hD hS

set_option maxHeartbeats 4000000 in
set_option maxRecDepth 100000 in
theorem c_X3_ageOf (l : Launch) (g : sp_G) (a : sp_A) (u : sp_U) (t : sp_T) (hR : sp_R u t) (hI : sp_I t) (i : Nat) (hi : i < tn t) : sp_CI l g yX3_ageOf wsX3_ageOf ({ frames := 0, cells := 0, slots := 0, locals := 0 }) [.ref a.1, .int (nI i)] (twW g a u) (fun z (_ : Unit) => z = nI (sp_age t i)) (fun _ => twW g a u) := by
  refine sp_CI.of (cc := cX3_ageOf) (maxL := 2) (by decide) rfl (Nat.le_of_ble_eq_true rfl) ?_
  intro p e s m below meth c Q A ls SF hK hP hD hA hl hend
  have hx := SF.1
  have hb := SF.2.1
  have hown : s.vm.findClass RX3 = some m.cls := SF.2.2.2.1
  have hts := SF.2.2.2.2
  have hS : va_S A s.heap s.heap [] := va_S.rf
  have inX3 : ∀ w ∈ wsX30, w ∈ wsX3_ageOf := fun w h => List.mem_cons_of_mem _ (List.mem_append_right _ h)
  have hl : lv_has ls 2 [(0, .ref a.1), (1, .int (nI i))] := hl
  have hn8 := hI.n
  refine lv_aload_n hx hb dX3_ageOf_0 rfl (lv_at hl 0 rfl) ?_
  refine va_get (D := g.1) (ci := 3) (v := .int u.2.2.2.2.2.1) (C := RX3) (T := TX3) (N := 8) hx hb hts inX3 hown hK.1 hP 0 rfl rfl 5 (by decide) (hts _ (List.mem_of_getElem? (i := 1) rfl)) (fun _ h9 => h9) rfl dX3_ageOf_1 ?_
  refine sp_top (y := nI (td t)) (hR.day) ?_
  refine lv_aload_n hx hb dX3_ageOf_4 rfl (lv_at hl 0 rfl) ?_
  refine va_get (D := g.1) (ci := 3) (v := .ref a.2.2.1) (C := RX3) (T := TX3) (N := 8) hx hb hts inX3 hown hK.1 hP 0 rfl rfl 1 (by decide) (hts _ (List.mem_of_getElem? (i := 2) rfl)) (fun _ h9 => h9) rfl dX3_ageOf_5 ?_
  refine lv_iload_n hx hb dX3_ageOf_8 rfl (lv_at hl 1 rfl) ?_
  refine va_iald hx hb hK.1 hP 2 0 rfl rfl (vp_in_nI (by omega) (by omega)) dX3_ageOf_9 ?_
  refine sp_top (y := u.2.1 i) (congrArg u.2.1 (sp_c8 (k := i) (by omega))) ?_
  refine sp_top (y := nI (tpo t i)) (hR.po hi) ?_
  refine lv_isub hx hb dX3_ageOf_10 ?_
  refine sp_top (y := nI (sp_age t i)) (sp_sub (hI.po hi)) ?_
  exact hend _ _ _ _ _ () dX3_ageOf_11 (rfl) hP hD hS

set_option maxHeartbeats 4000000 in
set_option maxRecDepth 100000 in
theorem c_X3_strengthOf (l : Launch) (g : sp_G) (a : sp_A) (u : sp_U) (t : sp_T) (hR : sp_R u t) (hI : sp_I t) (i : Nat) (hi : i < tn t) : sp_CI l g yX3_strengthOf wsX3_strengthOf ({ frames := 1, cells := 0, slots := 0, locals := 24 }) [.ref a.1, .int (nI i)] (twW g a u) (fun z (_ : Unit) => z = nI (sp_str t i)) (fun _ => twW g a u) := by
  refine sp_CI.of (cc := cX3_strengthOf) (maxL := 3) (by decide) rfl (Nat.le_of_ble_eq_true rfl) ?_
  intro p e s m below meth c Q A ls SF hK hP hD hA hl hend
  have hx := SF.1
  have hb := SF.2.1
  have hown : s.vm.findClass RX3 = some m.cls := SF.2.2.2.1
  have hts := SF.2.2.2.2
  have hS : va_S A s.heap s.heap [] := va_S.rf
  have inX3 : ∀ w ∈ wsX30, w ∈ wsX3_strengthOf := fun w h => List.mem_cons_of_mem _ (List.mem_append_right _ h)
  have hl : lv_has ls 3 [(0, .ref a.1), (1, .int (nI i))] := hl
  have hn8 := hI.n
  refine lv_aload_n hx hb dX3_strengthOf_0 rfl (lv_at hl 0 rfl) ?_
  refine lv_iload_n hx hb dX3_strengthOf_1 rfl (lv_at hl 1 rfl) ?_
  refine sp_vi0 (n := 1) SF hK hA (c_X3_ageOf l g a u t hR hI i hi) gX3_strengthOf_X3_ageOf rfl rfl rfl (by decide +kernel) rfl ⟨Nat.le_of_ble_eq_true rfl, Nat.le_of_ble_eq_true rfl⟩ 3 0 rfl rfl hP hD hS hl.1 rfl (Nat.le_of_ble_eq_true rfl) dX3_strengthOf_2 (fun r9 u9 H locs w1 hP hD hS => ?_)
  subst w1
  have hP : va_P g.1 vwCl (twW g a u) H := hP
  have hD : va_D A (twW g a u) := hD
  refine lv_bipush (v := nI 10) hx hb dX3_strengthOf_5 (by decide) ?_
  refine lv_aload_n hx hb dX3_strengthOf_7 rfl (lv_at hl 0 rfl) ?_
  refine va_get (D := g.1) (ci := 3) (v := .ref a.2.2.2.1) (C := RX3) (T := TX3) (N := 8) hx hb hts inX3 hown hK.1 hP 0 rfl rfl 2 (by decide) (hts _ (List.mem_of_getElem? (i := 1) rfl)) (fun _ h9 => h9) rfl dX3_strengthOf_8 ?_
  refine lv_iload_n hx hb dX3_strengthOf_11 rfl (lv_at hl 1 rfl) ?_
  refine va_iald hx hb hK.1 hP 3 0 rfl rfl (vp_in_nI (by omega) (by omega)) dX3_strengthOf_12 ?_
  refine sp_top (y := u.2.2.1 i) (congrArg u.2.2.1 (sp_c8 (k := i) (by omega))) ?_
  refine sp_top (y := nI (tsl t i)) (hR.sl hi) ?_
  refine lv_isub hx hb dX3_strengthOf_13 ?_
  refine sp_top (y := nI (10 - tsl t i)) (sp_sub (Nat.le_trans (hI.sl hi) (by omega))) ?_
  refine lv_imul hx hb dX3_strengthOf_14 ?_
  refine sp_top (y := nI ((sp_age t i) * (10 - tsl t i))) (sp_mul _ _) ?_
  refine lv_bipush (v := nI 10) hx hb dX3_strengthOf_15 (by decide) ?_
  have hag := sp_age_le hI i
  have hm1 : sp_age t i * (10 - tsl t i) ≤ 200000 * 10 := Nat.mul_le_mul hag (by omega)
  refine lv_idiv hx hb dX3_strengthOf_17 (sp_ne (by omega) (by omega)) ?_
  refine sp_top (y := nI (sp_rip t i)) (sp_div (by omega) (by omega) (by omega)) ?_
  refine lv_istore_n (lv' := [(2, .int (nI (sp_rip t i))), (0, .ref a.1), (1, .int (nI i))]) hx hb dX3_strengthOf_18 rfl hl (by decide) rfl (fun ls hl => ?_)
  refine lv_aload_n hx hb dX3_strengthOf_19 rfl (lv_at hl 1 rfl) ?_
  refine va_get (D := g.1) (ci := 3) (v := .ref a.2.1) (C := RX3) (T := TX3) (N := 8) hx hb hts inX3 hown hK.1 hP 0 rfl rfl 0 (by decide) (hts _ (List.mem_of_getElem? (i := 2) rfl)) (fun _ h9 => h9) rfl dX3_strengthOf_20 ?_
  refine lv_iconst (v := nI 1) hx hb dX3_strengthOf_23 (by decide) ?_
  refine va_iald hx hb hK.1 hP 1 0 rfl rfl (vp_in_nI (by omega) (by omega)) dX3_strengthOf_24 ?_
  refine sp_top (y := u.1 1) (congrArg u.1 (sp_c8 (k := 1) (by omega))) ?_
  refine sp_top (y := nI (tm t)) (hR.b1) ?_
  refine lv_aload_n hx hb dX3_strengthOf_25 rfl (lv_at hl 1 rfl) ?_
  refine va_get (D := g.1) (ci := 3) (v := .ref a.2.1) (C := RX3) (T := TX3) (N := 8) hx hb hts inX3 hown hK.1 hP 0 rfl rfl 0 (by decide) (hts _ (List.mem_of_getElem? (i := 2) rfl)) (fun _ h9 => h9) rfl dX3_strengthOf_26 ?_
  refine lv_iconst (v := nI 2) hx hb dX3_strengthOf_29 (by decide) ?_
  refine va_iald hx hb hK.1 hP 1 0 rfl rfl (vp_in_nI (by omega) (by omega)) dX3_strengthOf_30 ?_
  refine sp_top (y := u.1 2) (congrArg u.1 (sp_c8 (k := 2) (by omega))) ?_
  refine sp_top (y := nI (tt t)) (hR.b2) ?_
  refine lv_iload_n hx hb dX3_strengthOf_31 rfl (lv_at hl 0 rfl) ?_
  refine sp_sn (n := 2) (wc := []) (wr := (twW g a u)) SF hK hA (c_X4_percentAt l g (tt t) (sp_rip t i) hI.t (Nat.le_trans (sp_rip_le hI i) (by omega))) ggX3_strengthOf_X4_percentAt rfl (List.mem_of_getElem? (i := 10) rfl) (List.mem_of_getElem? (i := 11) rfl) rfl rfl (by decide +kernel) rfl ⟨Nat.le_of_ble_eq_true rfl, Nat.le_of_ble_eq_true rfl⟩ hP hD hS hl.1 rfl (Nat.le_of_ble_eq_true rfl) dX3_strengthOf_32 (fun r9 u9 H locs w2 hP hD hS => ?_)
  subst w2
  have hP : va_P g.1 vwCl (twW g a u) H := hP
  have hD : va_D A (twW g a u) := hD
  refine lv_imul hx hb dX3_strengthOf_35 ?_
  refine sp_top (y := nI ((tm t) * (sp_pct (tt t) (sp_rip t i)))) (sp_mul _ _) ?_
  refine lv_bipush (v := nI 100) hx hb dX3_strengthOf_36 (by decide) ?_
  have hm2 : tm t * sp_pct (tt t) (sp_rip t i) ≤ 400 * 100 := Nat.mul_le_mul hI.m (sp_pct_le _ _)
  refine lv_idiv hx hb dX3_strengthOf_38 (sp_ne (by omega) (by omega)) ?_
  refine sp_top (y := nI (sp_str t i)) (sp_div (by omega) (by omega) (by omega)) ?_
  exact hend _ _ _ _ _ () dX3_strengthOf_39 (rfl) hP hD hS

set_option maxHeartbeats 4000000 in
set_option maxRecDepth 100000 in
theorem c_X3_isPropped (l : Launch) (g : sp_G) (a : sp_A) (u : sp_U) (t : sp_T) (hR : sp_R u t) (hI : sp_I t) (i : Nat) (hi : i < 8) : sp_CB l g yX3_isPropped wsX3_isPropped ({ frames := 0, cells := 0, slots := 0, locals := 0 }) [.ref a.1, .int (nI i)] (twW g a u) (fun b (_ : Unit) => b = sp_pp t i) (fun _ => twW g a u) := by
  refine sp_CB.of (cc := cX3_isPropped) (maxL := 2) (by decide) rfl (Nat.le_of_ble_eq_true rfl) ?_
  intro p e s m below meth c Q A ls SF hK hP hD hA hl hend
  have hx := SF.1
  have hb := SF.2.1
  have hown : s.vm.findClass RX3 = some m.cls := SF.2.2.2.1
  have hts := SF.2.2.2.2
  have hS : va_S A s.heap s.heap [] := va_S.rf
  have inX3 : ∀ w ∈ wsX30, w ∈ wsX3_isPropped := fun w h => List.mem_cons_of_mem _ (List.mem_append_right _ h)
  have hl : lv_has ls 2 [(0, .ref a.1), (1, .int (nI i))] := hl
  have hn8 := hI.n
  refine lv_aload_n hx hb dX3_isPropped_0 rfl (lv_at hl 0 rfl) ?_
  refine va_get (D := g.1) (ci := 3) (v := .int u.2.2.2.2.2.2.2) (C := RX3) (T := TX3) (N := 8) hx hb hts inX3 hown hK.1 hP 0 rfl rfl 7 (by decide) (hts _ (List.mem_of_getElem? (i := 1) rfl)) (fun _ h9 => h9) rfl dX3_isPropped_1 ?_
  refine sp_top (y := nI (tpr t)) (hR.prp) ?_
  refine lv_iload_n hx hb dX3_isPropped_4 rfl (lv_at hl 1 rfl) ?_
  refine lv_ishr hx hb dX3_isPropped_5 ?_
  refine lv_iconst (v := nI 1) hx hb dX3_isPropped_6 (by decide) ?_
  refine lv_iand hx hb dX3_isPropped_7 ?_
  refine lv_iconst (v := nI 1) hx hb dX3_isPropped_8 (by decide) ?_
  refine lv_icmp_ne (tgt := 16) hx hb dX3_isPropped_9 (by decide) (fun c1 => ?_) (fun c1 => ?_)
  · refine lv_iconst (v := bI false) hx hb dX3_isPropped_16 (by decide) ?_
    exact hend _ _ _ _ false () dX3_isPropped_17 (by first | exact (sp_bit1 hI.pr8 hi c1).symm | exact (sp_bit0 hI.pr8 hi c1).symm) hP hD hS
  · refine lv_iconst (v := bI true) hx hb dX3_isPropped_12 (by decide) ?_
    refine lv_goto (tgt := 17) hx hb dX3_isPropped_13 (by decide) ?_
    exact hend _ _ _ _ true () dX3_isPropped_17 (by first | exact (sp_bit1 hI.pr8 hi c1).symm | exact (sp_bit0 hI.pr8 hi c1).symm) hP hD hS

set_option maxHeartbeats 4000000 in
set_option maxRecDepth 100000 in
theorem c_X3_lowestOf (l : Launch) (g : sp_G) (a : sp_A) (u : sp_U) (t : sp_T) (hR : sp_R u t) (hI : sp_I t) (i : Nat) (hi : i < 8) : sp_CI l g yX3_lowestOf wsX3_lowestOf ({ frames := 1, cells := 0, slots := 0, locals := 21 }) [.ref a.1, .int (nI i)] (twW g a u) (fun z (_ : Unit) => z = nI (sp_low t i)) (fun _ => twW g a u) := by
  refine sp_CI.of (cc := cX3_lowestOf) (maxL := 3) (by decide) rfl (Nat.le_of_ble_eq_true rfl) ?_
  intro p e s m below meth c Q A ls SF hK hP hD hA hl hend
  have hx := SF.1
  have hb := SF.2.1
  have hown : s.vm.findClass RX3 = some m.cls := SF.2.2.2.1
  have hts := SF.2.2.2.2
  have hS : va_S A s.heap s.heap [] := va_S.rf
  have inX3 : ∀ w ∈ wsX30, w ∈ wsX3_lowestOf := fun w h => List.mem_cons_of_mem _ (List.mem_append_right _ h)
  have hl : lv_has ls 3 [(0, .ref a.1), (1, .int (nI i))] := hl
  have hn8 := hI.n
  refine lv_iload_n hx hb dX3_lowestOf_0 rfl (lv_at hl 1 rfl) ?_
  refine lv_istore_n (lv' := [(2, .int (nI i)), (0, .ref a.1), (1, .int (nI i))]) hx hb dX3_lowestOf_1 rfl hl (by decide) rfl (fun ls hl => ?_)
  have hloop2 : ∀ (n2 : Nat) (k : Nat) (H : Heap) (locs : List Loc) (ls : Array Slot), (k ≤ i) → (sp_low t k = sp_low t i) → k < n2 → va_P g.1 vwCl (twW g a u) H → va_D A (twW g a u) → va_S A s.heap H locs → lv_has ls 3 [(0, .ref a.1), (1, .int (nI i)), (2, .int (nI k))] → W p l e ({ frames := 1, cells := 0, slots := 0, locals := 21 }) s m ([.ref a.1, .int (nI i)] : List Value).toArray below meth c H locs 0 0 Q (F0 m 2 ls []) := by
    intro n2
    induction n2 with
    | zero =>
      intro k H locs ls hk hlow h9
      exact absurd h9 (Nat.not_lt_zero _)
    | succ n2 ih2 =>
      intro k H locs ls hk hlow hm2 hP hD hS hl
      refine lv_iload_n hx hb dX3_lowestOf_2 rfl (lv_at hl 2 rfl) ?_
      refine lv_if_le (tgt := 20) hx hb dX3_lowestOf_3 (by decide) (fun c1 => ?_) (fun c1 => ?_)
      · have c1 := (sp_z_le (by omega)).mp c1
        refine lv_iload_n hx hb dX3_lowestOf_20 rfl (lv_at hl 2 rfl) ?_
        exact hend _ _ _ _ _ () dX3_lowestOf_21 (by first | (rw [← hlow, hlow2]) | (rw [← hlow, show k = 0 by omega]; rfl)) hP hD hS
      · have c1 := mt (sp_z_le (by omega)).mpr c1
        obtain ⟨j, rfl⟩ : ∃ j, k = j + 1 := ⟨k - 1, by omega⟩
        refine lv_aload_n hx hb dX3_lowestOf_6 rfl (lv_at hl 0 rfl) ?_
        refine lv_iload_n hx hb dX3_lowestOf_7 rfl (lv_at hl 2 rfl) ?_
        refine sp_vi0 (n := 1) SF hK hA (c_X3_isPropped l g a u t hR hI (j + 1) (by omega)) gX3_lowestOf_X3_isPropped rfl rfl rfl (by decide +kernel) rfl ⟨Nat.le_of_ble_eq_true rfl, Nat.le_of_ble_eq_true rfl⟩ 3 0 rfl rfl hP hD hS hl.1 rfl (Nat.le_of_ble_eq_true rfl) dX3_lowestOf_8 (fun r9 u9 H locs hbb hP hD hS => ?_)
        obtain ⟨bb, rfl, hbb⟩ := hbb
        have hP : va_P g.1 vwCl (twW g a u) H := hP
        have hD : va_D A (twW g a u) := hD
        refine lv_if_eq (tgt := 20) hx hb dX3_lowestOf_11 (by decide) (fun c2 => ?_) (fun c2 => ?_)
        · have c2 := sp_b0.mp c2
          have hlow2 : sp_low t (j + 1) = j + 1 := by show lowF _ (j + 1) = j + 1; simp only [lowF]; rw [← hbb, c2]; rfl
          refine lv_iload_n hx hb dX3_lowestOf_20 rfl (lv_at hl 2 rfl) ?_
          exact hend _ _ _ _ _ () dX3_lowestOf_21 (by first | (rw [← hlow, hlow2]) | (rw [← hlow, show k = 0 by omega]; rfl)) hP hD hS
        · have c2 := sp_b0n.mp c2
          have hlow2 : sp_low t (j + 1) = sp_low t j := by show lowF _ (j + 1) = lowF _ j; simp only [lowF]; rw [← hbb, c2]; rfl
          refine lv_iinc (v := nI j) (lv' := [(2, .int (nI j)), (0, .ref a.1), (1, .int (nI i))]) hx hb dX3_lowestOf_14 hl (k := 2) rfl (sp_dec j) (by decide) rfl (fun ls hl => ?_)
          refine lv_goto (tgt := 2) hx hb dX3_lowestOf_17 (by decide) ?_
          exact ih2 j _ _ _ (by omega) (hlow2.symm.trans hlow) (by omega) hP hD hS (lv_sub hl [1, 2, 0] rfl)
  exact hloop2 (_ + 1) i _ _ _ (Nat.le_refl _) (rfl) (Nat.lt_succ_self _) hP hD hS (lv_sub hl [1, 2, 0] rfl)

set_option maxHeartbeats 4000000 in
set_option maxRecDepth 100000 in
theorem c_X3_highestOf (l : Launch) (g : sp_G) (a : sp_A) (u : sp_U) (t : sp_T) (hR : sp_R u t) (hI : sp_I t) (i : Nat) (hi : i < tn t) : sp_CI l g yX3_highestOf wsX3_highestOf ({ frames := 1, cells := 0, slots := 0, locals := 21 }) [.ref a.1, .int (nI i)] (twW g a u) (fun z (_ : Unit) => z = nI (sp_hi t i)) (fun _ => twW g a u) := by
  refine sp_CI.of (cc := cX3_highestOf) (maxL := 3) (by decide) rfl (Nat.le_of_ble_eq_true rfl) ?_
  intro p e s m below meth c Q A ls SF hK hP hD hA hl hend
  have hx := SF.1
  have hb := SF.2.1
  have hown : s.vm.findClass RX3 = some m.cls := SF.2.2.2.1
  have hts := SF.2.2.2.2
  have hS : va_S A s.heap s.heap [] := va_S.rf
  have inX3 : ∀ w ∈ wsX30, w ∈ wsX3_highestOf := fun w h => List.mem_cons_of_mem _ (List.mem_append_right _ h)
  have hl : lv_has ls 3 [(0, .ref a.1), (1, .int (nI i))] := hl
  have hn8 := hI.n
  refine lv_iload_n hx hb dX3_highestOf_0 rfl (lv_at hl 1 rfl) ?_
  refine lv_istore_n (lv' := [(2, .int (nI i)), (0, .ref a.1), (1, .int (nI i))]) hx hb dX3_highestOf_1 rfl hl (by decide) rfl (fun ls hl => ?_)
  have hloop2 : ∀ (n2 : Nat) (k : Nat) (H : Heap) (locs : List Loc) (ls : Array Slot), (k < tn t) → (sp_hi t k = sp_hi t i) → tn t - k < n2 → va_P g.1 vwCl (twW g a u) H → va_D A (twW g a u) → va_S A s.heap H locs → lv_has ls 3 [(0, .ref a.1), (1, .int (nI i)), (2, .int (nI k))] → W p l e ({ frames := 1, cells := 0, slots := 0, locals := 21 }) s m ([.ref a.1, .int (nI i)] : List Value).toArray below meth c H locs 0 0 Q (F0 m 2 ls []) := by
    intro n2
    induction n2 with
    | zero =>
      intro k H locs ls hk hh h9
      exact absurd h9 (Nat.not_lt_zero _)
    | succ n2 ih2 =>
      intro k H locs ls hk hh hm2 hP hD hS hl
      refine lv_iload_n hx hb dX3_highestOf_2 rfl (lv_at hl 2 rfl) ?_
      refine lv_iconst (v := nI 1) hx hb dX3_highestOf_3 (by decide) ?_
      refine lv_iadd hx hb dX3_highestOf_4 ?_
      refine sp_top (y := nI (k + 1)) (nI_add _ _) ?_
      refine lv_aload_n hx hb dX3_highestOf_5 rfl (lv_at hl 0 rfl) ?_
      refine va_get (D := g.1) (ci := 3) (v := .int u.2.2.2.2.2.2.1) (C := RX3) (T := TX3) (N := 8) hx hb hts inX3 hown hK.1 hP 0 rfl rfl 6 (by decide) (hts _ (List.mem_of_getElem? (i := 1) rfl)) (fun _ h9 => h9) rfl dX3_highestOf_6 ?_
      refine sp_top (y := nI (tn t)) (hR.cnt) ?_
      refine lv_icmp_ge (tgt := 28) hx hb dX3_highestOf_9 (by decide) (fun c1 => ?_) (fun c1 => ?_)
      · have c1 := (nI_leI (by omega) (by omega)).mp c1
        refine lv_iload_n hx hb dX3_highestOf_28 rfl (lv_at hl 2 rfl) ?_
        exact hend _ _ _ _ _ () dX3_highestOf_29 (by first | rw [← hh, sp_hi_end (Or.inl c1)] | rw [← hh, sp_hi_end (Or.inr hbb)]) hP hD hS
      · have c1 := mt (nI_leI (by omega) (by omega)).mpr c1
        refine lv_aload_n hx hb dX3_highestOf_12 rfl (lv_at hl 0 rfl) ?_
        refine lv_iload_n hx hb dX3_highestOf_13 rfl (lv_at hl 2 rfl) ?_
        refine lv_iconst (v := nI 1) hx hb dX3_highestOf_14 (by decide) ?_
        refine lv_iadd hx hb dX3_highestOf_15 ?_
        refine sp_top (y := nI (k + 1)) (nI_add _ _) ?_
        refine sp_vi0 (n := 1) SF hK hA (c_X3_isPropped l g a u t hR hI (k + 1) (by omega)) gX3_highestOf_X3_isPropped rfl rfl rfl (by decide +kernel) rfl ⟨Nat.le_of_ble_eq_true rfl, Nat.le_of_ble_eq_true rfl⟩ 3 0 rfl rfl hP hD hS hl.1 rfl (Nat.le_of_ble_eq_true rfl) dX3_highestOf_16 (fun r9 u9 H locs hbb hP hD hS => ?_)
        obtain ⟨bb, rfl, hbb⟩ := hbb
        have hP : va_P g.1 vwCl (twW g a u) H := hP
        have hD : va_D A (twW g a u) := hD
        refine lv_if_eq (tgt := 28) hx hb dX3_highestOf_19 (by decide) (fun c2 => ?_) (fun c2 => ?_)
        · have c2 := sp_b0.mp c2
          rw [c2] at hbb; have hbb := hbb.symm
          refine lv_iload_n hx hb dX3_highestOf_28 rfl (lv_at hl 2 rfl) ?_
          exact hend _ _ _ _ _ () dX3_highestOf_29 (by first | rw [← hh, sp_hi_end (Or.inl c1)] | rw [← hh, sp_hi_end (Or.inr hbb)]) hP hD hS
        · have c2 := sp_b0n.mp c2
          rw [c2] at hbb; have hbb := hbb.symm
          refine lv_iinc (v := nI (k + 1)) (lv' := [(2, .int (nI (k + 1))), (0, .ref a.1), (1, .int (nI i))]) hx hb dX3_highestOf_22 hl (k := 2) rfl (nI_1 k) (by decide) rfl (fun ls hl => ?_)
          refine lv_goto (tgt := 2) hx hb dX3_highestOf_25 (by decide) ?_
          exact ih2 (k + 1) _ _ _ (by omega) ((sp_hi_step (by omega) hbb).symm.trans hh) (by omega) hP hD hS (lv_sub hl [1, 2, 0] rfl)
  exact hloop2 (_ + 1) i _ _ _ (hi) (rfl) (Nat.lt_succ_self _) hP hD hS (lv_sub hl [1, 2, 0] rfl)

set_option maxHeartbeats 4000000 in
set_option maxRecDepth 100000 in
theorem c_X3_lowestPropped (l : Launch) (g : sp_G) (a : sp_A) (u : sp_U) (t : sp_T) (hR : sp_R u t) (hI : sp_I t) : sp_CI l g yX3_lowestPropped wsX3_lowestPropped ({ frames := 1, cells := 0, slots := 0, locals := 21 }) [.ref a.1] (twW g a u) (fun z (_ : Unit) => z = nI (sp_lop t)) (fun _ => twW g a u) := by
  refine sp_CI.of (cc := cX3_lowestPropped) (maxL := 2) (by decide) rfl (Nat.le_of_ble_eq_true rfl) ?_
  intro p e s m below meth c Q A ls SF hK hP hD hA hl hend
  have hx := SF.1
  have hb := SF.2.1
  have hown : s.vm.findClass RX3 = some m.cls := SF.2.2.2.1
  have hts := SF.2.2.2.2
  have hS : va_S A s.heap s.heap [] := va_S.rf
  have inX3 : ∀ w ∈ wsX30, w ∈ wsX3_lowestPropped := fun w h => List.mem_cons_of_mem _ (List.mem_append_right _ h)
  have hl : lv_has ls 2 [(0, .ref a.1)] := hl
  have hn8 := hI.n
  refine lv_iconst (v := nI 0) hx hb dX3_lowestPropped_0 (by decide) ?_
  refine lv_istore_n (lv' := [(1, .int (nI 0)), (0, .ref a.1)]) hx hb dX3_lowestPropped_1 rfl hl (by decide) rfl (fun ls hl => ?_)
  have hloop2 : ∀ (n2 : Nat) (k : Nat) (H : Heap) (locs : List Loc) (ls : Array Slot), (k ≤ tn t) → (lpF (sp_pp t) (tn t - k) k = sp_lop t) → tn t - k < n2 → va_P g.1 vwCl (twW g a u) H → va_D A (twW g a u) → va_S A s.heap H locs → lv_has ls 2 [(0, .ref a.1), (1, .int (nI k))] → W p l e ({ frames := 1, cells := 0, slots := 0, locals := 21 }) s m ([.ref a.1] : List Value).toArray below meth c H locs 0 0 Q (F0 m 2 ls []) := by
    intro n2
    induction n2 with
    | zero =>
      intro k H locs ls hk hh h9
      exact absurd h9 (Nat.not_lt_zero _)
    | succ n2 ih2 =>
      intro k H locs ls hk hh hm2 hP hD hS hl
      refine lv_iload_n hx hb dX3_lowestPropped_2 rfl (lv_at hl 1 rfl) ?_
      refine lv_aload_n hx hb dX3_lowestPropped_3 rfl (lv_at hl 0 rfl) ?_
      refine va_get (D := g.1) (ci := 3) (v := .int u.2.2.2.2.2.2.1) (C := RX3) (T := TX3) (N := 8) hx hb hts inX3 hown hK.1 hP 0 rfl rfl 6 (by decide) (hts _ (List.mem_of_getElem? (i := 1) rfl)) (fun _ h9 => h9) rfl dX3_lowestPropped_4 ?_
      refine sp_top (y := nI (tn t)) (hR.cnt) ?_
      refine lv_icmp_ge (tgt := 24) hx hb dX3_lowestPropped_7 (by decide) (fun c1 => ?_) (fun c1 => ?_)
      · have c1 := (nI_leI (by omega) (by omega)).mp c1
        refine lv_iload_n hx hb dX3_lowestPropped_24 rfl (lv_at hl 1 rfl) ?_
        exact hend _ _ _ _ _ () dX3_lowestPropped_25 (by first | rw [← hh, lpF_end c1] | rw [← hh, lpF_hit (by omega) hbb]) hP hD hS
      · have c1 := mt (nI_leI (by omega) (by omega)).mpr c1
        refine lv_aload_n hx hb dX3_lowestPropped_10 rfl (lv_at hl 0 rfl) ?_
        refine lv_iload_n hx hb dX3_lowestPropped_11 rfl (lv_at hl 1 rfl) ?_
        refine sp_vi0 (n := 1) SF hK hA (c_X3_isPropped l g a u t hR hI k (by omega)) gX3_lowestPropped_X3_isPropped rfl rfl rfl (by decide +kernel) rfl ⟨Nat.le_of_ble_eq_true rfl, Nat.le_of_ble_eq_true rfl⟩ 3 0 rfl rfl hP hD hS hl.1 rfl (Nat.le_of_ble_eq_true rfl) dX3_lowestPropped_12 (fun r9 u9 H locs hbb hP hD hS => ?_)
        obtain ⟨bb, rfl, hbb⟩ := hbb
        have hP : va_P g.1 vwCl (twW g a u) H := hP
        have hD : va_D A (twW g a u) := hD
        refine lv_if_ne (tgt := 24) hx hb dX3_lowestPropped_15 (by decide) (fun c2 => ?_) (fun c2 => ?_)
        · have c2 := sp_b0n.mp c2
          rw [c2] at hbb; have hbb := hbb.symm
          refine lv_iload_n hx hb dX3_lowestPropped_24 rfl (lv_at hl 1 rfl) ?_
          exact hend _ _ _ _ _ () dX3_lowestPropped_25 (by first | rw [← hh, lpF_end c1] | rw [← hh, lpF_hit (by omega) hbb]) hP hD hS
        · have c2 := sp_b0.mp c2
          rw [c2] at hbb; have hbb := hbb.symm
          refine lv_iinc (v := nI (k + 1)) (lv' := [(1, .int (nI (k + 1))), (0, .ref a.1)]) hx hb dX3_lowestPropped_18 hl (k := 1) rfl (nI_1 k) (by decide) rfl (fun ls hl => ?_)
          refine lv_goto (tgt := 2) hx hb dX3_lowestPropped_21 (by decide) ?_
          exact ih2 (k + 1) _ _ _ (by omega) ((lpF_step (by omega) hbb).symm.trans hh) (by omega) hP hD hS (lv_sub hl [1, 0] rfl)
  exact hloop2 (_ + 1) 0 _ _ _ (Nat.zero_le _) (rfl) (Nat.lt_succ_self _) hP hD hS (lv_sub hl [1, 0] rfl)

set_option maxHeartbeats 4000000 in
set_option maxRecDepth 100000 in
theorem c_X3_isGrounded (l : Launch) (g : sp_G) (a : sp_A) (u : sp_U) (t : sp_T) (hR : sp_R u t) (hI : sp_I t) (i : Nat) (hi : i < 8) : sp_CB l g yX3_isGrounded wsX3_isGrounded ({ frames := 2, cells := 0, slots := 0, locals := 43 }) [.ref a.1, .int (nI i)] (twW g a u) (fun b (_ : Unit) => b = sp_gr t i) (fun _ => twW g a u) := by
  refine sp_CB.of (cc := cX3_isGrounded) (maxL := 2) (by decide) rfl (Nat.le_of_ble_eq_true rfl) ?_
  intro p e s m below meth c Q A ls SF hK hP hD hA hl hend
  have hx := SF.1
  have hb := SF.2.1
  have hown : s.vm.findClass RX3 = some m.cls := SF.2.2.2.1
  have hts := SF.2.2.2.2
  have hS : va_S A s.heap s.heap [] := va_S.rf
  have inX3 : ∀ w ∈ wsX30, w ∈ wsX3_isGrounded := fun w h => List.mem_cons_of_mem _ (List.mem_append_right _ h)
  have hl : lv_has ls 2 [(0, .ref a.1), (1, .int (nI i))] := hl
  have hn8 := hI.n
  refine lv_aload_n hx hb dX3_isGrounded_0 rfl (lv_at hl 0 rfl) ?_
  refine lv_iload_n hx hb dX3_isGrounded_1 rfl (lv_at hl 1 rfl) ?_
  refine sp_vi0 (n := 1) SF hK hA (c_X3_lowestOf l g a u t hR hI i hi) gX3_isGrounded_X3_lowestOf rfl rfl rfl (by decide +kernel) rfl ⟨Nat.le_of_ble_eq_true rfl, Nat.le_of_ble_eq_true rfl⟩ 3 0 rfl rfl hP hD hS hl.1 rfl (Nat.le_of_ble_eq_true rfl) dX3_isGrounded_2 (fun r9 u9 H locs w1 hP hD hS => ?_)
  subst w1
  have hP : va_P g.1 vwCl (twW g a u) H := hP
  have hD : va_D A (twW g a u) := hD
  have hlw := sp_low_le t i
  refine lv_if_ne (tgt := 20) hx hb dX3_isGrounded_5 (by decide) (fun c1 => ?_) (fun c1 => ?_)
  · have c1 := mt (sp_z_eq (by omega)).mpr c1
    refine lv_iconst (v := bI false) hx hb dX3_isGrounded_20 (by decide) ?_
    exact hend _ _ _ _ false () dX3_isGrounded_21 (by first | (unfold sp_gr; rw [← hbb, c2, c1]; rfl) | (unfold sp_gr; rw [decide_eq_false c1]; rfl)) hP hD hS
  · have c1 := (sp_z_eq (by omega)).mp c1
    refine lv_aload_n hx hb dX3_isGrounded_8 rfl (lv_at hl 0 rfl) ?_
    refine lv_iconst (v := nI 0) hx hb dX3_isGrounded_9 (by decide) ?_
    refine sp_vi0 (n := 1) SF hK hA (c_X3_isPropped l g a u t hR hI 0 (by omega)) gX3_isGrounded_X3_isPropped rfl rfl rfl (by decide +kernel) rfl ⟨Nat.le_of_ble_eq_true rfl, Nat.le_of_ble_eq_true rfl⟩ 3 0 rfl rfl hP hD hS hl.1 rfl (Nat.le_of_ble_eq_true rfl) dX3_isGrounded_10 (fun r9 u9 H locs hbb hP hD hS => ?_)
    obtain ⟨bb, rfl, hbb⟩ := hbb
    have hP : va_P g.1 vwCl (twW g a u) H := hP
    have hD : va_D A (twW g a u) := hD
    refine lv_if_eq (tgt := 20) hx hb dX3_isGrounded_13 (by decide) (fun c2 => ?_) (fun c2 => ?_)
    · have c2 := sp_b0.mp c2
      refine lv_iconst (v := bI false) hx hb dX3_isGrounded_20 (by decide) ?_
      exact hend _ _ _ _ false () dX3_isGrounded_21 (by first | (unfold sp_gr; rw [← hbb, c2, c1]; rfl) | (unfold sp_gr; rw [decide_eq_false c1]; rfl)) hP hD hS
    · have c2 := sp_b0n.mp c2
      refine lv_iconst (v := bI true) hx hb dX3_isGrounded_16 (by decide) ?_
      refine lv_goto (tgt := 21) hx hb dX3_isGrounded_17 (by decide) ?_
      exact hend _ _ _ _ true () dX3_isGrounded_21 (by first | (unfold sp_gr; rw [← hbb, c2, c1]; rfl) | (unfold sp_gr; rw [decide_eq_false c1]; rfl)) hP hD hS

set_option maxHeartbeats 4000000 in
set_option maxRecDepth 100000 in
theorem c_X3_forceUnder (l : Launch) (g : sp_G) (a : sp_A) (u : sp_U) (t : sp_T) (hR : sp_R u t) (hI : sp_I t) (i : Nat) (hi : i < tn t) : sp_CI l g yX3_forceUnder wsX3_forceUnder ({ frames := 2, cells := 0, slots := 0, locals := 43 }) [.ref a.1, .int (nI i)] (twW g a u) (fun z (_ : Unit) => z = sp_frc t i) (fun _ => twW g a u) := by
  refine sp_CI.of (cc := cX3_forceUnder) (maxL := 5) (by decide) rfl (Nat.le_of_ble_eq_true rfl) ?_
  intro p e s m below meth c Q A ls SF hK hP hD hA hl hend
  have hx := SF.1
  have hb := SF.2.1
  have hown : s.vm.findClass RX3 = some m.cls := SF.2.2.2.1
  have hts := SF.2.2.2.2
  have hS : va_S A s.heap s.heap [] := va_S.rf
  have inX3 : ∀ w ∈ wsX30, w ∈ wsX3_forceUnder := fun w h => List.mem_cons_of_mem _ (List.mem_append_right _ h)
  have hl : lv_has ls 5 [(0, .ref a.1), (1, .int (nI i))] := hl
  have hn8 := hI.n
  refine lv_aload_n hx hb dX3_forceUnder_0 rfl (lv_at hl 0 rfl) ?_
  refine lv_iload_n hx hb dX3_forceUnder_1 rfl (lv_at hl 1 rfl) ?_
  refine sp_vi0 (n := 1) SF hK hA (c_X3_isPropped l g a u t hR hI i (by omega)) gX3_forceUnder_X3_isPropped rfl rfl rfl (by decide +kernel) rfl ⟨Nat.le_of_ble_eq_true rfl, Nat.le_of_ble_eq_true rfl⟩ 3 0 rfl rfl hP hD hS hl.1 rfl (Nat.le_of_ble_eq_true rfl) dX3_forceUnder_2 (fun r9 u9 H locs hbb hP hD hS => ?_)
  obtain ⟨bb, rfl, hbb⟩ := hbb
  have hP : va_P g.1 vwCl (twW g a u) H := hP
  have hD : va_D A (twW g a u) := hD
  refine lv_if_ne (tgt := 10) hx hb dX3_forceUnder_5 (by decide) (fun c1 => ?_) (fun c1 => ?_)
  · have c1 := sp_b0n.mp c1
    rw [c1] at hbb; have hbb := hbb.symm
    have hhl := sp_hi_lt hi
    have hhg := sp_le_hi t i
    refine lv_iconst (v := nI 0) hx hb dX3_forceUnder_10 (by decide) ?_
    refine lv_istore_n (lv' := [(2, .int (nI 0)), (0, .ref a.1), (1, .int (nI i))]) hx hb dX3_forceUnder_11 rfl hl (by decide) rfl (fun ls hl => ?_)
    refine lv_aload_n hx hb dX3_forceUnder_12 rfl (lv_at hl 1 rfl) ?_
    refine lv_iload_n hx hb dX3_forceUnder_13 rfl (lv_at hl 2 rfl) ?_
    refine sp_vi0 (n := 1) SF hK hA (c_X3_highestOf l g a u t hR hI i hi) gX3_forceUnder_X3_highestOf rfl rfl rfl (by decide +kernel) rfl ⟨Nat.le_of_ble_eq_true rfl, Nat.le_of_ble_eq_true rfl⟩ 3 0 rfl rfl hP hD hS hl.1 rfl (Nat.le_of_ble_eq_true rfl) dX3_forceUnder_14 (fun r9 u9 H locs w1 hP hD hS => ?_)
    subst w1
    have hP : va_P g.1 vwCl (twW g a u) H := hP
    have hD : va_D A (twW g a u) := hD
    refine lv_istore_n (lv' := [(3, .int (nI (sp_hi t i))), (2, .int (nI 0)), (0, .ref a.1), (1, .int (nI i))]) hx hb dX3_forceUnder_17 rfl hl (by decide) rfl (fun ls hl => ?_)
    refine lv_iload_n hx hb dX3_forceUnder_18 rfl (lv_at hl 3 rfl) ?_
    refine lv_istore (lv' := [(4, .int (nI i)), (3, .int (nI (sp_hi t i))), (2, .int (nI 0)), (0, .ref a.1), (1, .int (nI i))]) hx hb dX3_forceUnder_19 hl (by decide) rfl (fun ls hl => ?_)
    have hloop21 : ∀ (n21 : Nat) (k : Nat) (z : Int32) (H : Heap) (locs : List Loc) (ls : Array Slot), (i ≤ k) → (k ≤ sp_hi t i + 1) → (lp (sp_frs t) (sp_hi t i + 1 - k) k z = sp_frc t i) → sp_hi t i + 1 - k < n21 → va_P g.1 vwCl (twW g a u) H → va_D A (twW g a u) → va_S A s.heap H locs → lv_has ls 5 [(0, .ref a.1), (1, .int (nI i)), (2, .int z), (3, .int (nI (sp_hi t i))), (4, .int (nI k))] → W p l e ({ frames := 2, cells := 0, slots := 0, locals := 43 }) s m ([.ref a.1, .int (nI i)] : List Value).toArray below meth c H locs 0 0 Q (F0 m 21 ls []) := by
      intro n21
      induction n21 with
      | zero =>
        intro k z H locs ls hk1 hk2 hh h9
        exact absurd h9 (Nat.not_lt_zero _)
      | succ n21 ih21 =>
        intro k z H locs ls hk1 hk2 hh hm21 hP hD hS hl
        refine lv_iload hx hb dX3_forceUnder_21 (lv_at hl 4 rfl) ?_
        refine lv_iload_n hx hb dX3_forceUnder_23 rfl (lv_at hl 3 rfl) ?_
        refine lv_icmp_gt (tgt := 50) hx hb dX3_forceUnder_24 (by decide) (fun c2 => ?_) (fun c2 => ?_)
        · have c2 := (nI_ltI (by omega) (by omega)).mp c2
          refine lv_iload_n hx hb dX3_forceUnder_50 rfl (lv_at hl 2 rfl) ?_
          exact hend _ _ _ _ _ () dX3_forceUnder_51 (by rw [← hh, lp_end _ (by omega)]) hP hD hS
        · have c2 := mt (nI_ltI (by omega) (by omega)).mpr c2
          refine lv_iload_n hx hb dX3_forceUnder_27 rfl (lv_at hl 2 rfl) ?_
          refine lv_aload_n hx hb dX3_forceUnder_28 rfl (lv_at hl 0 rfl) ?_
          refine va_get (D := g.1) (ci := 3) (v := .ref a.2.1) (C := RX3) (T := TX3) (N := 8) hx hb hts inX3 hown hK.1 hP 0 rfl rfl 0 (by decide) (hts _ (List.mem_of_getElem? (i := 1) rfl)) (fun _ h9 => h9) rfl dX3_forceUnder_29 ?_
          refine lv_iconst (v := nI 0) hx hb dX3_forceUnder_32 (by decide) ?_
          refine va_iald hx hb hK.1 hP 1 0 rfl rfl (vp_in_nI (by omega) (by omega)) dX3_forceUnder_33 ?_
          refine sp_top (y := u.1 0) (congrArg u.1 (sp_c8 (k := 0) (by omega))) ?_
          refine sp_top (y := nI (tw t)) (hR.b0) ?_
          refine lv_aload_n hx hb dX3_forceUnder_34 rfl (lv_at hl 0 rfl) ?_
          refine va_get (D := g.1) (ci := 3) (v := .ref a.2.2.2.2.1) (C := RX3) (T := TX3) (N := 8) hx hb hts inX3 hown hK.1 hP 0 rfl rfl 3 (by decide) (hts _ (List.mem_of_getElem? (i := 2) rfl)) (fun _ h9 => h9) rfl dX3_forceUnder_35 ?_
          refine lv_iload hx hb dX3_forceUnder_38 (lv_at hl 4 rfl) ?_
          refine va_iald hx hb hK.1 hP 4 0 rfl rfl (vp_in_nI (by omega) (by omega)) dX3_forceUnder_40 ?_
          refine sp_top (y := u.2.2.2.1 k) (congrArg u.2.2.2.1 (sp_c8 (k := k) (by omega))) ?_
          refine sp_top (y := tlo t k) (hR.lo (by omega)) ?_
          refine lv_isub hx hb dX3_forceUnder_41 ?_
          refine lv_iadd hx hb dX3_forceUnder_42 ?_
          refine sp_top (y := sp_frs t k z) (rfl) ?_
          refine lv_istore_n (lv' := [(2, .int (sp_frs t k z)), (0, .ref a.1), (1, .int (nI i)), (3, .int (nI (sp_hi t i))), (4, .int (nI k))]) hx hb dX3_forceUnder_43 rfl hl (by decide) rfl (fun ls hl => ?_)
          refine lv_iinc (v := nI (k + 1)) (lv' := [(4, .int (nI (k + 1))), (2, .int (sp_frs t k z)), (0, .ref a.1), (1, .int (nI i)), (3, .int (nI (sp_hi t i)))]) hx hb dX3_forceUnder_44 hl (k := 4) rfl (nI_1 k) (by decide) rfl (fun ls hl => ?_)
          refine lv_goto (tgt := 21) hx hb dX3_forceUnder_47 (by decide) ?_
          exact ih21 (k + 1) (sp_frs t k z) _ _ _ (by omega) (by omega) ((lp_step _ (by omega) _).symm.trans hh) (by omega) hP hD hS (lv_sub hl [2, 3, 1, 4, 0] rfl)
    exact hloop21 (_ + 1) i (nI 0) _ _ _ (Nat.le_refl _) (by omega) (by unfold sp_frc; rw [hbb]; rfl) (Nat.lt_succ_self _) hP hD hS (lv_sub hl [3, 4, 2, 1, 0] rfl)
  · have c1 := sp_b0.mp c1
    rw [c1] at hbb; have hbb := hbb.symm
    refine lv_iconst (v := nI 0) hx hb dX3_forceUnder_8 (by decide) ?_
    exact hend _ _ _ _ _ () dX3_forceUnder_9 (by unfold sp_frc; rw [hbb]; rfl) hP hD hS

set_option maxHeartbeats 4000000 in
set_option maxRecDepth 100000 in
theorem c_X3_weakSet (l : Launch) (g : sp_G) (a : sp_A) (u : sp_U) (t : sp_T) (hR : sp_R u t) (hI : sp_I t) : sp_CI l g yX3_weakSet wsX3_weakSet ({ frames := 2, cells := 0, slots := 0, locals := 46 }) [.ref a.1] (twW g a u) (fun z (_ : Unit) => z = sp_wk t) (fun _ => twW g a u) := by
  refine sp_CI.of (cc := cX3_weakSet) (maxL := 3) (by decide) rfl (Nat.le_of_ble_eq_true rfl) ?_
  intro p e s m below meth c Q A ls SF hK hP hD hA hl hend
  have hx := SF.1
  have hb := SF.2.1
  have hown : s.vm.findClass RX3 = some m.cls := SF.2.2.2.1
  have hts := SF.2.2.2.2
  have hS : va_S A s.heap s.heap [] := va_S.rf
  have inX3 : ∀ w ∈ wsX30, w ∈ wsX3_weakSet := fun w h => List.mem_cons_of_mem _ (List.mem_append_right _ h)
  have hl : lv_has ls 3 [(0, .ref a.1)] := hl
  have hn8 := hI.n
  refine lv_iconst (v := nI 0) hx hb dX3_weakSet_0 (by decide) ?_
  refine lv_istore_n (lv' := [(1, .int (nI 0)), (0, .ref a.1)]) hx hb dX3_weakSet_1 rfl hl (by decide) rfl (fun ls hl => ?_)
  refine lv_iconst (v := nI 0) hx hb dX3_weakSet_2 (by decide) ?_
  refine lv_istore_n (lv' := [(2, .int (nI 0)), (1, .int (nI 0)), (0, .ref a.1)]) hx hb dX3_weakSet_3 rfl hl (by decide) rfl (fun ls hl => ?_)
  have hloop4 : ∀ (n4 : Nat) (k : Nat) (z : Int32) (H : Heap) (locs : List Loc) (ls : Array Slot), (k ≤ tn t) → (lp (sp_wks t) (tn t - k) k z = sp_wk t) → tn t - k < n4 → va_P g.1 vwCl (twW g a u) H → va_D A (twW g a u) → va_S A s.heap H locs → lv_has ls 3 [(0, .ref a.1), (1, .int z), (2, .int (nI k))] → W p l e ({ frames := 2, cells := 0, slots := 0, locals := 46 }) s m ([.ref a.1] : List Value).toArray below meth c H locs 0 0 Q (F0 m 4 ls []) := by
    intro n4
    induction n4 with
    | zero =>
      intro k z H locs ls hk2 hh h9
      exact absurd h9 (Nat.not_lt_zero _)
    | succ n4 ih4 =>
      intro k z H locs ls hk2 hh hm4 hP hD hS hl
      refine lv_iload_n hx hb dX3_weakSet_4 rfl (lv_at hl 2 rfl) ?_
      refine lv_aload_n hx hb dX3_weakSet_5 rfl (lv_at hl 0 rfl) ?_
      refine va_get (D := g.1) (ci := 3) (v := .int u.2.2.2.2.2.2.1) (C := RX3) (T := TX3) (N := 8) hx hb hts inX3 hown hK.1 hP 0 rfl rfl 6 (by decide) (hts _ (List.mem_of_getElem? (i := 1) rfl)) (fun _ h9 => h9) rfl dX3_weakSet_6 ?_
      refine sp_top (y := nI (tn t)) (hR.cnt) ?_
      refine lv_icmp_ge (tgt := 38) hx hb dX3_weakSet_9 (by decide) (fun c1 => ?_) (fun c1 => ?_)
      · have c1 := (nI_leI (by omega) (by omega)).mp c1
        refine lv_iload_n hx hb dX3_weakSet_38 rfl (lv_at hl 1 rfl) ?_
        exact hend _ _ _ _ _ () dX3_weakSet_39 (by rw [← hh, lp_end _ (by omega)]) hP hD hS
      · have c1 := mt (nI_leI (by omega) (by omega)).mpr c1
        refine lv_aload_n hx hb dX3_weakSet_12 rfl (lv_at hl 0 rfl) ?_
        refine va_get (D := g.1) (ci := 3) (v := .ref a.2.2.2.2.1) (C := RX3) (T := TX3) (N := 8) hx hb hts inX3 hown hK.1 hP 0 rfl rfl 3 (by decide) (hts _ (List.mem_of_getElem? (i := 2) rfl)) (fun _ h9 => h9) rfl dX3_weakSet_13 ?_
        refine lv_iload_n hx hb dX3_weakSet_16 rfl (lv_at hl 2 rfl) ?_
        refine va_iald hx hb hK.1 hP 4 0 rfl rfl (vp_in_nI (by omega) (by omega)) dX3_weakSet_17 ?_
        refine sp_top (y := u.2.2.2.1 k) (congrArg u.2.2.2.1 (sp_c8 (k := k) (by omega))) ?_
        refine sp_top (y := tlo t k) (hR.lo (by omega)) ?_
        refine lv_aload_n hx hb dX3_weakSet_18 rfl (lv_at hl 0 rfl) ?_
        refine lv_iload_n hx hb dX3_weakSet_19 rfl (lv_at hl 2 rfl) ?_
        refine sp_vi0 (n := 1) SF hK hA (c_X3_strengthOf l g a u t hR hI k (by omega)) gX3_weakSet_X3_strengthOf rfl rfl rfl (by decide +kernel) rfl ⟨Nat.le_of_ble_eq_true rfl, Nat.le_of_ble_eq_true rfl⟩ 3 0 rfl rfl hP hD hS hl.1 rfl (Nat.le_of_ble_eq_true rfl) dX3_weakSet_20 (fun r9 u9 H locs w1 hP hD hS => ?_)
        subst w1
        have hP : va_P g.1 vwCl (twW g a u) H := hP
        have hD : va_D A (twW g a u) := hD
        refine lv_icmp_le (tgt := 32) hx hb dX3_weakSet_23 (by decide) (fun c2 => ?_) (fun c2 => ?_)
        · have c2 : ¬ nI (sp_str t k) < tlo t k := Int32.not_lt.mpr c2
          refine lv_iinc (v := nI (k + 1)) (lv' := [(2, .int (nI (k + 1))), (0, .ref a.1), (1, .int z)]) hx hb dX3_weakSet_32 hl (k := 2) rfl (nI_1 k) (by decide) rfl (fun ls hl => ?_)
          refine lv_goto (tgt := 4) hx hb dX3_weakSet_35 (by decide) ?_
          exact ih4 (k + 1) z _ _ _ (by omega) (by rw [← hh, lp_step (sp_wks t) (show k < tn t by omega)]; first | rw [sp_wks_t c2] | rw [sp_wks_f c2]) (by omega) hP hD hS (lv_sub hl [1, 2, 0] rfl)
        · have c2 : nI (sp_str t k) < tlo t k := Int32.not_le.mp c2
          refine lv_iload_n hx hb dX3_weakSet_26 rfl (lv_at hl 1 rfl) ?_
          refine lv_iconst (v := nI 1) hx hb dX3_weakSet_27 (by decide) ?_
          refine lv_iload_n hx hb dX3_weakSet_28 rfl (lv_at hl 2 rfl) ?_
          refine lv_ishl hx hb dX3_weakSet_29 ?_
          refine lv_ior hx hb dX3_weakSet_30 ?_
          refine lv_istore_n (lv' := [(1, .int (z ||| ((nI 1) <<< ((nI k) &&& 31)))), (0, .ref a.1), (2, .int (nI k))]) hx hb dX3_weakSet_31 rfl hl (by decide) rfl (fun ls hl => ?_)
          refine lv_iinc (v := nI (k + 1)) (lv' := [(2, .int (nI (k + 1))), (1, .int (z ||| ((nI 1) <<< ((nI k) &&& 31)))), (0, .ref a.1)]) hx hb dX3_weakSet_32 hl (k := 2) rfl (nI_1 k) (by decide) rfl (fun ls hl => ?_)
          refine lv_goto (tgt := 4) hx hb dX3_weakSet_35 (by decide) ?_
          exact ih4 (k + 1) (z ||| (nI 1 <<< (nI k &&& 31))) _ _ _ (by omega) (by rw [← hh, lp_step (sp_wks t) (show k < tn t by omega)]; first | rw [sp_wks_t c2] | rw [sp_wks_f c2]) (by omega) hP hD hS (lv_sub hl [2, 1, 0] rfl)
  exact hloop4 (_ + 1) 0 (nI 0) _ _ _ (Nat.zero_le _) (rfl) (Nat.lt_succ_self _) hP hD hS (lv_sub hl [2, 1, 0] rfl)

set_option maxHeartbeats 4000000 in
set_option maxRecDepth 100000 in
theorem c_X3_isSafe (l : Launch) (g : sp_G) (a : sp_A) (u : sp_U) (t : sp_T) (hR : sp_R u t) (hI : sp_I t) : sp_CB l g yX3_isSafe wsX3_isSafe ({ frames := 3, cells := 0, slots := 0, locals := 68 }) [.ref a.1] (twW g a u) (fun b (_ : Unit) => b = sp_safe t) (fun _ => twW g a u) := by
  refine sp_CB.of (cc := cX3_isSafe) (maxL := 1) (by decide) rfl (Nat.le_of_ble_eq_true rfl) ?_
  intro p e s m below meth c Q A ls SF hK hP hD hA hl hend
  have hx := SF.1
  have hb := SF.2.1
  have hown : s.vm.findClass RX3 = some m.cls := SF.2.2.2.1
  have hts := SF.2.2.2.2
  have hS : va_S A s.heap s.heap [] := va_S.rf
  have inX3 : ∀ w ∈ wsX30, w ∈ wsX3_isSafe := fun w h => List.mem_cons_of_mem _ (List.mem_append_right _ h)
  have hl : lv_has ls 1 [(0, .ref a.1)] := hl
  have hn8 := hI.n
  refine lv_aload_n hx hb dX3_isSafe_0 rfl (lv_at hl 0 rfl) ?_
  refine sp_vi0 (n := 0) SF hK hA (c_X3_weakSet l g a u t hR hI) gX3_isSafe_X3_weakSet rfl rfl rfl (by decide +kernel) rfl ⟨Nat.le_of_ble_eq_true rfl, Nat.le_of_ble_eq_true rfl⟩ 3 0 rfl rfl hP hD hS hl.1 rfl (Nat.le_of_ble_eq_true rfl) dX3_isSafe_1 (fun r9 u9 H locs w1 hP hD hS => ?_)
  subst w1
  have hP : va_P g.1 vwCl (twW g a u) H := hP
  have hD : va_D A (twW g a u) := hD
  refine lv_if_ne (tgt := 11) hx hb dX3_isSafe_4 (by decide) (fun c1 => ?_) (fun c1 => ?_)
  · refine lv_iconst (v := bI false) hx hb dX3_isSafe_11 (by decide) ?_
    exact hend _ _ _ _ false () dX3_isSafe_12 (by first | exact (decide_eq_true c1).symm | exact (decide_eq_false c1).symm) hP hD hS
  · refine lv_iconst (v := bI true) hx hb dX3_isSafe_7 (by decide) ?_
    refine lv_goto (tgt := 12) hx hb dX3_isSafe_8 (by decide) ?_
    exact hend _ _ _ _ true () dX3_isSafe_12 (by first | exact (decide_eq_true c1).symm | exact (decide_eq_false c1).symm) hP hD hS

set_option maxHeartbeats 4000000 in
set_option maxRecDepth 100000 in
theorem c_X3_greatestExcess (l : Launch) (g : sp_G) (a : sp_A) (u : sp_U) (t : sp_T) (hR : sp_R u t) (hI : sp_I t) (h0 : 0 < tn t) : sp_CI l g yX3_greatestExcess wsX3_greatestExcess ({ frames := 2, cells := 0, slots := 0, locals := 46 }) [.ref a.1] (twW g a u) (fun z (_ : Unit) => z = sp_exc t) (fun _ => twW g a u) := by
  refine sp_CI.of (cc := cX3_greatestExcess) (maxL := 3) (by decide) rfl (Nat.le_of_ble_eq_true rfl) ?_
  intro p e s m below meth c Q A ls SF hK hP hD hA hl hend
  have hx := SF.1
  have hb := SF.2.1
  have hown : s.vm.findClass RX3 = some m.cls := SF.2.2.2.1
  have hts := SF.2.2.2.2
  have hS : va_S A s.heap s.heap [] := va_S.rf
  have inX3 : ∀ w ∈ wsX30, w ∈ wsX3_greatestExcess := fun w h => List.mem_cons_of_mem _ (List.mem_append_right _ h)
  have hl : lv_has ls 3 [(0, .ref a.1)] := hl
  have hn8 := hI.n
  refine lv_aload_n hx hb dX3_greatestExcess_0 rfl (lv_at hl 0 rfl) ?_
  refine va_get (D := g.1) (ci := 3) (v := .ref a.2.2.2.2.1) (C := RX3) (T := TX3) (N := 8) hx hb hts inX3 hown hK.1 hP 0 rfl rfl 3 (by decide) (hts _ (List.mem_of_getElem? (i := 1) rfl)) (fun _ h9 => h9) rfl dX3_greatestExcess_1 ?_
  refine lv_iconst (v := nI 0) hx hb dX3_greatestExcess_4 (by decide) ?_
  refine va_iald hx hb hK.1 hP 4 0 rfl rfl (vp_in_nI (by omega) (by omega)) dX3_greatestExcess_5 ?_
  refine sp_top (y := u.2.2.2.1 0) (congrArg u.2.2.2.1 (sp_c8 (k := 0) (by omega))) ?_
  refine sp_top (y := tlo t 0) (hR.lo h0) ?_
  refine lv_aload_n hx hb dX3_greatestExcess_6 rfl (lv_at hl 0 rfl) ?_
  refine lv_iconst (v := nI 0) hx hb dX3_greatestExcess_7 (by decide) ?_
  refine sp_vi0 (n := 1) SF hK hA (c_X3_strengthOf l g a u t hR hI 0 h0) gX3_greatestExcess_X3_strengthOf rfl rfl rfl (by decide +kernel) rfl ⟨Nat.le_of_ble_eq_true rfl, Nat.le_of_ble_eq_true rfl⟩ 3 0 rfl rfl hP hD hS hl.1 rfl (Nat.le_of_ble_eq_true rfl) dX3_greatestExcess_8 (fun r9 u9 H locs w1 hP hD hS => ?_)
  subst w1
  have hP : va_P g.1 vwCl (twW g a u) H := hP
  have hD : va_D A (twW g a u) := hD
  refine lv_isub hx hb dX3_greatestExcess_11 ?_
  refine lv_istore_n (lv' := [(1, .int ((tlo t 0) - (nI (sp_str t 0)))), (0, .ref a.1)]) hx hb dX3_greatestExcess_12 rfl hl (by decide) rfl (fun ls hl => ?_)
  refine lv_iconst (v := nI 1) hx hb dX3_greatestExcess_13 (by decide) ?_
  refine lv_istore_n (lv' := [(2, .int (nI 1)), (1, .int ((tlo t 0) - (nI (sp_str t 0)))), (0, .ref a.1)]) hx hb dX3_greatestExcess_14 rfl hl (by decide) rfl (fun ls hl => ?_)
  have hloop15 : ∀ (n15 : Nat) (k : Nat) (z : Int32) (H : Heap) (locs : List Loc) (ls : Array Slot), (1 ≤ k) → (k ≤ tn t) → (lp (sp_exs t) (tn t - k) k z = sp_exc t) → tn t - k < n15 → va_P g.1 vwCl (twW g a u) H → va_D A (twW g a u) → va_S A s.heap H locs → lv_has ls 3 [(0, .ref a.1), (1, .int z), (2, .int (nI k))] → W p l e ({ frames := 2, cells := 0, slots := 0, locals := 46 }) s m ([.ref a.1] : List Value).toArray below meth c H locs 0 0 Q (F0 m 15 ls []) := by
    intro n15
    induction n15 with
    | zero =>
      intro k z H locs ls hk1 hk2 hh h9
      exact absurd h9 (Nat.not_lt_zero _)
    | succ n15 ih15 =>
      intro k z H locs ls hk1 hk2 hh hm15 hP hD hS hl
      refine lv_iload_n hx hb dX3_greatestExcess_15 rfl (lv_at hl 2 rfl) ?_
      refine lv_aload_n hx hb dX3_greatestExcess_16 rfl (lv_at hl 0 rfl) ?_
      refine va_get (D := g.1) (ci := 3) (v := .int u.2.2.2.2.2.2.1) (C := RX3) (T := TX3) (N := 8) hx hb hts inX3 hown hK.1 hP 0 rfl rfl 6 (by decide) (hts _ (List.mem_of_getElem? (i := 2) rfl)) (fun _ h9 => h9) rfl dX3_greatestExcess_17 ?_
      refine sp_top (y := nI (tn t)) (hR.cnt) ?_
      refine lv_icmp_ge (tgt := 46) hx hb dX3_greatestExcess_20 (by decide) (fun c1 => ?_) (fun c1 => ?_)
      · have c1 := (nI_leI (by omega) (by omega)).mp c1
        refine lv_iload_n hx hb dX3_greatestExcess_46 rfl (lv_at hl 1 rfl) ?_
        exact hend _ _ _ _ _ () dX3_greatestExcess_47 (by rw [← hh, lp_end _ (by omega)]) hP hD hS
      · have c1 := mt (nI_leI (by omega) (by omega)).mpr c1
        refine lv_iload_n hx hb dX3_greatestExcess_23 rfl (lv_at hl 1 rfl) ?_
        refine lv_aload_n hx hb dX3_greatestExcess_24 rfl (lv_at hl 0 rfl) ?_
        refine va_get (D := g.1) (ci := 3) (v := .ref a.2.2.2.2.1) (C := RX3) (T := TX3) (N := 8) hx hb hts inX3 hown hK.1 hP 0 rfl rfl 3 (by decide) (hts _ (List.mem_of_getElem? (i := 1) rfl)) (fun _ h9 => h9) rfl dX3_greatestExcess_25 ?_
        refine lv_iload_n hx hb dX3_greatestExcess_28 rfl (lv_at hl 2 rfl) ?_
        refine va_iald hx hb hK.1 hP 4 0 rfl rfl (vp_in_nI (by omega) (by omega)) dX3_greatestExcess_29 ?_
        refine sp_top (y := u.2.2.2.1 k) (congrArg u.2.2.2.1 (sp_c8 (k := k) (by omega))) ?_
        refine sp_top (y := tlo t k) (hR.lo (by omega)) ?_
        refine lv_aload_n hx hb dX3_greatestExcess_30 rfl (lv_at hl 0 rfl) ?_
        refine lv_iload_n hx hb dX3_greatestExcess_31 rfl (lv_at hl 2 rfl) ?_
        refine sp_vi0 (n := 1) SF hK hA (c_X3_strengthOf l g a u t hR hI k (by omega)) gX3_greatestExcess_X3_strengthOf rfl rfl rfl (by decide +kernel) rfl ⟨Nat.le_of_ble_eq_true rfl, Nat.le_of_ble_eq_true rfl⟩ 3 0 rfl rfl hP hD hS hl.1 rfl (Nat.le_of_ble_eq_true rfl) dX3_greatestExcess_32 (fun r9 u9 H locs w2 hP hD hS => ?_)
        subst w2
        have hP : va_P g.1 vwCl (twW g a u) H := hP
        have hD : va_D A (twW g a u) := hD
        refine lv_isub hx hb dX3_greatestExcess_35 ?_
        refine va_mmax hx hb (by rw [SF.2.2.1]; exact hl.1.symm) hown (hts _ (List.mem_of_getElem? (i := 3) rfl)) (hts _ (List.mem_of_getElem? (i := 4) rfl)) (hts _ (List.mem_of_getElem? (i := 5) rfl)) (hts _ (List.mem_of_getElem? (i := 6) rfl)) (Nat.le_of_ble_eq_true rfl) (Nat.le_of_ble_eq_true rfl) (Nat.zero_le _) (Nat.zero_le _) dX3_greatestExcess_36 ?_
        refine sp_top (y := sp_exs t k z) (rfl) ?_
        refine lv_istore_n (lv' := [(1, .int (sp_exs t k z)), (0, .ref a.1), (2, .int (nI k))]) hx hb dX3_greatestExcess_39 rfl hl (by decide) rfl (fun ls hl => ?_)
        refine lv_iinc (v := nI (k + 1)) (lv' := [(2, .int (nI (k + 1))), (1, .int (sp_exs t k z)), (0, .ref a.1)]) hx hb dX3_greatestExcess_40 hl (k := 2) rfl (nI_1 k) (by decide) rfl (fun ls hl => ?_)
        refine lv_goto (tgt := 15) hx hb dX3_greatestExcess_43 (by decide) ?_
        exact ih15 (k + 1) (sp_exs t k z) _ _ _ (by omega) (by omega) ((lp_step _ (by omega) _).symm.trans hh) (by omega) hP hD hS (lv_sub hl [2, 1, 0] rfl)
  exact hloop15 (_ + 1) 1 (tlo t 0 - nI (sp_str t 0)) _ _ _ (Nat.le_refl _) (h0) (rfl) (Nat.lt_succ_self _) hP hD hS (lv_sub hl [2, 1, 0] rfl)

set_option maxHeartbeats 4000000 in
set_option maxRecDepth 100000 in
theorem c_X3_empty (l : Launch) (g : sp_G) (a : sp_A) (u : sp_U) : sp_CV l g yX3_empty wsX3_empty ({ frames := 0, cells := 0, slots := 0, locals := 0 }) [.ref a.1] (twW g a u) (fun (_ : Unit) => True) (fun _ => twW g a (u.1, u.2.1, u.2.2.1, u.2.2.2.1, u.2.2.2.2.1, nI 0, nI 0, nI 0)) := by
  refine sp_CV.of (cc := cX3_empty) (maxL := 1) (by decide) rfl (Nat.le_of_ble_eq_true rfl) ?_
  intro p e s m below meth c Q A ls SF hK hP hD hA hl hend
  have hx := SF.1
  have hb := SF.2.1
  have hown : s.vm.findClass RX3 = some m.cls := SF.2.2.2.1
  have hts := SF.2.2.2.2
  have hS : va_S A s.heap s.heap [] := va_S.rf
  have inX3 : ∀ w ∈ wsX30, w ∈ wsX3_empty := fun w h => List.mem_cons_of_mem _ (List.mem_append_right _ h)
  have hl : lv_has ls 1 [(0, .ref a.1)] := hl
  refine lv_aload_n hx hb dX3_empty_0 rfl (lv_at hl 0 rfl) ?_
  refine lv_iconst (v := nI 0) hx hb dX3_empty_1 (by decide) ?_
  refine va_put (D := g.1) (ci := 3) (v := .int (nI 0)) (ty := .int) (C := RX3) (T := TX3) (N := 8) hx hb hts inX3 tyX3 tyX3_ok nmX3 hown hK.1 hP hD hS 0 rfl rfl 5 (by decide) (hts _ (List.mem_of_getElem? (i := 1) rfl)) (fun _ h9 => h9) rfl (by decide +kernel) rfl rfl (Nat.le_of_ble_eq_true rfl) dX3_empty_2 (fun H locs hP hD hS => ?_)
  have hP : va_P g.1 vwCl (twW g a (u.1, u.2.1, u.2.2.1, u.2.2.2.1, u.2.2.2.2.1, (nI 0), u.2.2.2.2.2.2.1, u.2.2.2.2.2.2.2)) H := hP
  have hD : va_D A (twW g a (u.1, u.2.1, u.2.2.1, u.2.2.2.1, u.2.2.2.2.1, (nI 0), u.2.2.2.2.2.2.1, u.2.2.2.2.2.2.2)) := hD
  refine lv_aload_n hx hb dX3_empty_5 rfl (lv_at hl 0 rfl) ?_
  refine lv_iconst (v := nI 0) hx hb dX3_empty_6 (by decide) ?_
  refine va_put (D := g.1) (ci := 3) (v := .int (nI 0)) (ty := .int) (C := RX3) (T := TX3) (N := 8) hx hb hts inX3 tyX3 tyX3_ok nmX3 hown hK.1 hP hD hS 0 rfl rfl 6 (by decide) (hts _ (List.mem_of_getElem? (i := 2) rfl)) (fun _ h9 => h9) rfl (by decide +kernel) rfl rfl (Nat.le_of_ble_eq_true rfl) dX3_empty_7 (fun H locs hP hD hS => ?_)
  have hP : va_P g.1 vwCl (twW g a (u.1, u.2.1, u.2.2.1, u.2.2.2.1, u.2.2.2.2.1, (nI 0), (nI 0), u.2.2.2.2.2.2.2)) H := hP
  have hD : va_D A (twW g a (u.1, u.2.1, u.2.2.1, u.2.2.2.1, u.2.2.2.2.1, (nI 0), (nI 0), u.2.2.2.2.2.2.2)) := hD
  refine lv_aload_n hx hb dX3_empty_10 rfl (lv_at hl 0 rfl) ?_
  refine lv_iconst (v := nI 0) hx hb dX3_empty_11 (by decide) ?_
  refine va_put (D := g.1) (ci := 3) (v := .int (nI 0)) (ty := .int) (C := RX3) (T := TX3) (N := 8) hx hb hts inX3 tyX3 tyX3_ok nmX3 hown hK.1 hP hD hS 0 rfl rfl 7 (by decide) (hts _ (List.mem_of_getElem? (i := 3) rfl)) (fun _ h9 => h9) rfl (by decide +kernel) rfl rfl (Nat.le_of_ble_eq_true rfl) dX3_empty_12 (fun H locs hP hD hS => ?_)
  have hP : va_P g.1 vwCl (twW g a (u.1, u.2.1, u.2.2.1, u.2.2.2.1, u.2.2.2.2.1, (nI 0), (nI 0), (nI 0))) H := hP
  have hD : va_D A (twW g a (u.1, u.2.1, u.2.2.1, u.2.2.2.1, u.2.2.2.2.1, (nI 0), (nI 0), (nI 0))) := hD
  exact hend _ _ _ _ () dX3_empty_15 (trivial) hP hD hS

set_option maxHeartbeats 4000000 in
set_option maxRecDepth 100000 in
theorem c_X3_putProps (l : Launch) (g : sp_G) (a : sp_A) (u : sp_U) (pr : Nat) (hpr : pr < 256) (hu : u.2.2.2.2.2.2.2 = nI pr) (i : Nat) (hi : i < 8) : sp_CV l g yX3_putProps wsX3_putProps ({ frames := 0, cells := 0, slots := 0, locals := 0 }) [.ref a.1, .int (nI i)] (twW g a u) (fun (_ : Unit) => True) (fun _ => twW g a (u.1, u.2.1, u.2.2.1, u.2.2.2.1, u.2.2.2.2.1, u.2.2.2.2.2.1, u.2.2.2.2.2.2.1, nI (pr ||| 2 ^ i))) := by
  refine sp_CV.of (cc := cX3_putProps) (maxL := 2) (by decide) rfl (Nat.le_of_ble_eq_true rfl) ?_
  intro p e s m below meth c Q A ls SF hK hP hD hA hl hend
  have hx := SF.1
  have hb := SF.2.1
  have hown : s.vm.findClass RX3 = some m.cls := SF.2.2.2.1
  have hts := SF.2.2.2.2
  have hS : va_S A s.heap s.heap [] := va_S.rf
  have inX3 : ∀ w ∈ wsX30, w ∈ wsX3_putProps := fun w h => List.mem_cons_of_mem _ (List.mem_append_right _ h)
  have hl : lv_has ls 2 [(0, .ref a.1), (1, .int (nI i))] := hl
  refine lv_aload_n hx hb dX3_putProps_0 rfl (lv_at hl 0 rfl) ?_
  refine lv_dup hx hb dX3_putProps_1 rfl ?_
  refine va_get (D := g.1) (ci := 3) (v := .int u.2.2.2.2.2.2.2) (C := RX3) (T := TX3) (N := 8) hx hb hts inX3 hown hK.1 hP 0 rfl rfl 7 (by decide) (hts _ (List.mem_of_getElem? (i := 1) rfl)) (fun _ h9 => h9) rfl dX3_putProps_2 ?_
  refine sp_top (y := nI pr) (hu) ?_
  refine lv_iconst (v := nI 1) hx hb dX3_putProps_5 (by decide) ?_
  refine lv_iload_n hx hb dX3_putProps_6 rfl (lv_at hl 1 rfl) ?_
  refine lv_ishl hx hb dX3_putProps_7 ?_
  refine lv_ior hx hb dX3_putProps_8 ?_
  refine sp_top (y := nI (pr ||| 2 ^ i)) (sp_bor pr hpr i hi) ?_
  refine va_put (D := g.1) (ci := 3) (v := .int (nI (pr ||| 2 ^ i))) (ty := .int) (C := RX3) (T := TX3) (N := 8) hx hb hts inX3 tyX3 tyX3_ok nmX3 hown hK.1 hP hD hS 0 rfl rfl 7 (by decide) (hts _ (List.mem_of_getElem? (i := 1) rfl)) (fun _ h9 => h9) rfl (by decide +kernel) rfl rfl (Nat.le_of_ble_eq_true rfl) dX3_putProps_9 (fun H locs hP hD hS => ?_)
  have hP : va_P g.1 vwCl (twW g a (u.1, u.2.1, u.2.2.1, u.2.2.2.1, u.2.2.2.2.1, u.2.2.2.2.2.1, u.2.2.2.2.2.2.1, (nI (pr ||| 2 ^ i)))) H := hP
  have hD : va_D A (twW g a (u.1, u.2.1, u.2.2.1, u.2.2.2.1, u.2.2.2.2.1, u.2.2.2.2.2.1, u.2.2.2.2.2.2.1, (nI (pr ||| 2 ^ i)))) := hD
  exact hend _ _ _ _ () dX3_putProps_12 (trivial) hP hD hS

