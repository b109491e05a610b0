set_option maxHeartbeats 4000000 in
set_option maxRecDepth 100000 in
/-- Arrays.fill -/
theorem c_J7_fill_53178 (l : Launch) (g : sp_G) (a : Nat) (f : Nat → Int32) (v : Int32) : sp_CV l g yJ7_fill_53178 wsJ7_fill_53178 ({ frames := 0, cells := 0, slots := 0, locals := 0 }) [.ref a, .int v] (arW g a f) (fun h : Nat → Int32 => ∀ j, j < 8 → h j = v) (fun h => arW g a h) := by
  refine sp_CV.of (cc := cJ7_fill_53178) (maxL := 4) (by decide) rfl (Nat.le_of_ble_eq_true rfl) ?_
  intro p e s m below meth c Q A ls SF hK hP hD hA hl hend
  have hx := SF.1
  have hb := SF.2.1
  have hown : s.vm.findClass RJ7 = some m.cls := SF.2.2.2.1
  have hts := SF.2.2.2.2
  have hS : va_S A s.heap s.heap [] := va_S.rf
  have hl : lv_has ls 4 [(0, .ref a), (1, .int v)] := hl
  refine lv_iconst (v := nI 0) hx hb dJ7_fill_53178_0 (by decide) ?_
  refine lv_istore_n (lv' := [(2, .int (nI 0)), (0, .ref a), (1, .int v)]) hx hb dJ7_fill_53178_1 rfl hl (by decide) rfl (fun ls hl => ?_)
  refine lv_aload_n hx hb dJ7_fill_53178_2 rfl (lv_at hl 1 rfl) ?_
  refine va_alen (v := nI 8) hx hb hK.1 hP 0 0 rfl rfl rfl dJ7_fill_53178_3 ?_
  refine lv_istore_n (lv' := [(3, .int (nI 8)), (2, .int (nI 0)), (0, .ref a), (1, .int v)]) hx hb dJ7_fill_53178_4 rfl hl (by decide) rfl (fun ls hl => ?_)
  have hloop5 : ∀ (n5 : Nat) (k : Nat) (h : Nat → Int32) (H : Heap) (locs : List Loc) (ls : Array Slot), (k ≤ 8) → (∀ j, j < k → h j = v) → 8 - k < n5 → va_P g.1 vwCl (arW g a h) H → va_D A (arW g a h) → va_S A s.heap H locs → lv_has ls 4 [(0, .ref a), (1, .int v), (2, .int (nI k)), (3, .int (nI 8))] → W p l e ({ frames := 0, cells := 0, slots := 0, locals := 0 }) s m ([.ref a, .int v] : List Value).toArray below meth c H locs 0 0 Q (F0 m 5 ls []) := by
    intro n5
    induction n5 with
    | zero =>
      intro k h H locs ls hk hh h9
      exact absurd h9 (Nat.not_lt_zero _)
    | succ n5 ih5 =>
      intro k h H locs ls hk hh hm5 hP hD hS hl
      refine lv_iload_n hx hb dJ7_fill_53178_5 rfl (lv_at hl 2 rfl) ?_
      refine lv_iload_n hx hb dJ7_fill_53178_6 rfl (lv_at hl 3 rfl) ?_
      refine lv_icmp_ge (tgt := 20) hx hb dJ7_fill_53178_7 (by decide) (fun c1 => ?_) (fun c1 => ?_)
      · have c1 := (nI_leI (by omega) (by omega)).mp c1
        exact hend _ _ _ _ h dJ7_fill_53178_20 (fun j hj => hh j (by omega)) hP hD hS
      · have c1 := mt (nI_leI (by omega) (by omega)).mpr c1
        refine lv_aload_n hx hb dJ7_fill_53178_10 rfl (lv_at hl 0 rfl) ?_
        refine lv_iload_n hx hb dJ7_fill_53178_11 rfl (lv_at hl 2 rfl) ?_
        refine lv_iload_n hx hb dJ7_fill_53178_12 rfl (lv_at hl 1 rfl) ?_
        refine va_iast hx hb hK.1 hP hD hS 0 0 rfl rfl (vp_in_nI (by omega) (by omega)) dJ7_fill_53178_13 (fun H locs hP hD hS => ?_)
        rw [sp_c8 (k := k) (by omega)] at hP hD
        have hP : va_P g.1 vwCl (arW g a ((upd h k v))) H := hP
        have hD : va_D A (arW g a ((upd h k v))) := hD
        refine lv_iinc (v := nI (k + 1)) (lv' := [(2, .int (nI (k + 1))), (0, .ref a), (1, .int v), (3, .int (nI 8))]) hx hb dJ7_fill_53178_14 hl (k := 2) rfl (nI_1 k) (by decide) rfl (fun ls hl => ?_)
        refine lv_goto (tgt := 5) hx hb dJ7_fill_53178_17 (by decide) ?_
        exact ih5 (k + 1) (upd h k v) _ _ _ (by omega) (sp_upd_ext0 (F := fun _ => v) hh rfl) (by omega) hP hD hS (lv_sub hl [1, 2, 0, 3] rfl)
  exact hloop5 (_ + 1) 0 f _ _ _ (by omega) (fun j hj => absurd hj (Nat.not_lt_zero j)) (Nat.lt_succ_self _) hP hD hS (lv_sub hl [2, 3, 1, 0] rfl)

set_option maxHeartbeats 4000000 in
set_option maxRecDepth 100000 in
theorem c_X3_spreadByOnes (l : Launch) (g : sp_G) (a : sp_A) (u : sp_U) (P : Nat → Nat) (lo hi : Nat) (hlh : lo ≤ hi) (hhi : hi < 8) (hP0 : ∀ j, lo ≤ j → j ≤ hi → u.2.2.2.2.1 j = nI (P j) ∧ P j < 2 ^ 31) (q : Int32) : sp_CV l g yX3_spreadByOnes wsX3_spreadByOnes ({ frames := 0, cells := 0, slots := 0, locals := 0 }) [.ref a.1, .int (nI lo), .int (nI hi), .int q] (twW g a u) (fun _ : Unit => True) (fun _ => twW g a (u.1, u.2.1, u.2.2.1, (lp (sp_s2 P) (hi + 1 - lo) lo (u.2.2.2.1, q)).1, u.2.2.2.2.1, u.2.2.2.2.2.1, u.2.2.2.2.2.2.1, u.2.2.2.2.2.2.2)) := by
  refine sp_CV.of (cc := cX3_spreadByOnes) (maxL := 7) (by decide) rfl (Nat.le_of_ble_eq_true rfl) ?_
  intro p e s m below meth c Q A ls SF hK hP hD hA hl hend
  have hx := SF.1
  have hb := SF.2.1
  have hown : s.vm.findClass RX3 = some m.cls := SF.2.2.2.1
  have hts := SF.2.2.2.2
  have hS : va_S A s.heap s.heap [] := va_S.rf
  have inX3 : ∀ w ∈ wsX30, w ∈ wsX3_spreadByOnes := fun w h => List.mem_cons_of_mem _ (List.mem_append_right _ h)
  have hl : lv_has ls 7 [(0, .ref a.1), (1, .int (nI lo)), (2, .int (nI hi)), (3, .int q)] := hl
  have hj9 : ∀  (H : Heap) (locs : List Loc) (ls : Array Slot), va_P g.1 vwCl (twW g a u) H → va_D A (twW g a u) → va_S A s.heap H locs → lv_has ls 7 [(0, .ref a.1), (1, .int (nI lo)), (2, .int (nI hi)), (3, .int q)] → W p l e ({ frames := 0, cells := 0, slots := 0, locals := 0 }) s m ([.ref a.1, .int (nI lo), .int (nI hi), .int q] : List Value).toArray below meth c H locs 0 0 Q (F0 m 9 ls [.int (sp_sg q)]) := by
    intro  H locs ls  hP hD hS hl
    refine lv_istore (lv' := [(4, .int (sp_sg q)), (0, .ref a.1), (1, .int (nI lo)), (2, .int (nI hi)), (3, .int q)]) hx hb dX3_spreadByOnes_9 hl (by decide) rfl (fun ls hl => ?_)
    refine lv_iload_n hx hb dX3_spreadByOnes_11 rfl (lv_at hl 4 rfl) ?_
    refine lv_istore (lv' := [(5, .int q), (4, .int (sp_sg q)), (0, .ref a.1), (1, .int (nI lo)), (2, .int (nI hi)), (3, .int q)]) hx hb dX3_spreadByOnes_12 hl (by decide) rfl (fun ls hl => ?_)
    refine lv_iload_n hx hb dX3_spreadByOnes_14 rfl (lv_at hl 3 rfl) ?_
    refine lv_istore (lv' := [(6, .int (nI lo)), (5, .int q), (4, .int (sp_sg q)), (0, .ref a.1), (1, .int (nI lo)), (2, .int (nI hi)), (3, .int q)]) hx hb dX3_spreadByOnes_15 hl (by decide) rfl (fun ls hl => ?_)
    have hloop17 : ∀ (n17 : Nat) (k : Nat) (f : Nat → Int32) (x : Int32) (H : Heap) (locs : List Loc) (ls : Array Slot), (lo ≤ k) → (k ≤ hi + 1) → (x = 0 ∨ sp_sg x = sp_sg q) → (lp (sp_s2 P) (hi + 1 - k) k (f, x) = lp (sp_s2 P) (hi + 1 - lo) lo (u.2.2.2.1, q)) → hi + 1 - k < n17 → va_P g.1 vwCl (twW g a (u.1, u.2.1, u.2.2.1, f, u.2.2.2.2.1, u.2.2.2.2.2.1, u.2.2.2.2.2.2.1, u.2.2.2.2.2.2.2)) H → va_D A (twW g a (u.1, u.2.1, u.2.2.1, f, u.2.2.2.2.1, u.2.2.2.2.2.1, u.2.2.2.2.2.2.1, u.2.2.2.2.2.2.2)) → va_S A s.heap H locs → lv_has ls 7 [(0, .ref a.1), (1, .int (nI lo)), (2, .int (nI hi)), (3, .int q), (4, .int (sp_sg q)), (5, .int x), (6, .int (nI k))] → W p l e ({ frames := 0, cells := 0, slots := 0, locals := 0 }) s m ([.ref a.1, .int (nI lo), .int (nI hi), .int q] : List Value).toArray below meth c H locs 0 0 Q (F0 m 17 ls []) := by
      intro n17
      induction n17 with
      | zero =>
        intro k f x H locs ls hk1 hk2 hsg hh h9
        exact absurd h9 (Nat.not_lt_zero _)
      | succ n17 ih17 =>
        intro k f x H locs ls hk1 hk2 hsg hh hm17 hP hD hS hl
        refine lv_iload hx hb dX3_spreadByOnes_17 (lv_at hl 6 rfl) ?_
        refine lv_iload_n hx hb dX3_spreadByOnes_19 rfl (lv_at hl 2 rfl) ?_
        refine lv_icmp_gt (tgt := 63) hx hb dX3_spreadByOnes_20 (by decide) (fun c0 => ?_) (fun c0 => ?_)
        · have c0 := (nI_ltI (by omega) (by omega)).mp c0
          have hf : (lp (sp_s2 P) (hi + 1 - lo) lo (u.2.2.2.1, q)).1 = f := by rw [← hh, lp_end _ (by omega)]
          subst hf
          exact hend _ _ _ _ () dX3_spreadByOnes_63 (trivial) hP hD hS
        · have c0 := mt (nI_ltI (by omega) (by omega)).mpr c0
          refine lv_iload hx hb dX3_spreadByOnes_23 (lv_at hl 5 rfl) ?_
          refine lv_if_eq (tgt := 63) hx hb dX3_spreadByOnes_25 (by decide) (fun c2 => ?_) (fun c2 => ?_)
          · have hf : (lp (sp_s2 P) (hi + 1 - lo) lo (u.2.2.2.1, q)).1 = f := by rw [← hh, c2, sp_s2_0]
            subst hf
            exact hend _ _ _ _ () dX3_spreadByOnes_63 (trivial) hP hD hS
          · have hsq : sp_sg x = sp_sg q := hsg.resolve_left c2
            have hpk := hP0 k hk1 (by omega)
            refine lv_aload_n hx hb dX3_spreadByOnes_28 rfl (lv_at hl 0 rfl) ?_
            refine va_get (D := g.1) (ci := 3) (v := .ref a.2.2.2.2.2) (C := RX3) (T := TX3) (N := 8) hx hb hts inX3 hown hK.1 hP 0 rfl rfl 4 (by decide) (hts _ (List.mem_of_getElem? (i := 1) rfl)) (fun _ h9 => h9) rfl dX3_spreadByOnes_29 ?_
            refine lv_iload hx hb dX3_spreadByOnes_32 (lv_at hl 6 rfl) ?_
            refine va_iald hx hb hK.1 hP 5 0 rfl rfl (vp_in_nI (by omega) (by omega)) dX3_spreadByOnes_34 ?_
            refine sp_top (y := u.2.2.2.2.1 k) (congrArg u.2.2.2.2.1 (sp_c8 (k := k) (by omega))) ?_
            refine sp_top (y := nI (P k)) (hpk.1) ?_
            refine lv_if_le (tgt := 57) hx hb dX3_spreadByOnes_35 (by decide) (fun c3 => ?_) (fun c3 => ?_)
            · have c3 := (sp_z_le hpk.2).mp c3
              refine lv_iinc (v := nI (k + 1)) (lv' := [(6, .int (nI (k + 1))), (0, .ref a.1), (1, .int (nI lo)), (2, .int (nI hi)), (3, .int q), (4, .int (sp_sg q)), (5, .int x)]) hx hb dX3_spreadByOnes_57 hl (k := 6) rfl (nI_1 k) (by decide) rfl (fun ls hl => ?_)
              refine lv_goto (tgt := 17) hx hb dX3_spreadByOnes_60 (by decide) ?_
              exact ih17 (k + 1) f x _ _ _ (by omega) (by omega) (hsg) (by rw [← hh, lp_step (sp_s2 P) (show k < hi + 1 by omega), sp_s2_p0 c3]) (by omega) hP hD hS (lv_sub hl [1, 2, 3, 4, 5, 6, 0] rfl)
            · have c3 := mt (sp_z_le hpk.2).mpr c3
              refine lv_aload_n hx hb dX3_spreadByOnes_38 rfl (lv_at hl 0 rfl) ?_
              refine va_get (D := g.1) (ci := 3) (v := .ref a.2.2.2.2.1) (C := RX3) (T := TX3) (N := 8) hx hb hts inX3 hown hK.1 hP 0 rfl rfl 3 (by decide) (hts _ (List.mem_of_getElem? (i := 2) rfl)) (fun _ h9 => h9) rfl dX3_spreadByOnes_39 ?_
              refine lv_iload hx hb dX3_spreadByOnes_42 (lv_at hl 6 rfl) ?_
              refine lv_dup2_11 hx hb dX3_spreadByOnes_44 rfl rfl ?_
              refine va_iald hx hb hK.1 hP 4 0 rfl rfl (vp_in_nI (by omega) (by omega)) dX3_spreadByOnes_45 ?_
              refine sp_top (y := f k) (congrArg f (sp_c8 (k := k) (by omega))) ?_
              refine lv_iload hx hb dX3_spreadByOnes_46 (lv_at hl 4 rfl) ?_
              refine lv_iadd hx hb dX3_spreadByOnes_48 ?_
              refine va_iast hx hb hK.1 hP hD hS 4 0 rfl rfl (vp_in_nI (by omega) (by omega)) dX3_spreadByOnes_49 (fun H locs hP hD hS => ?_)
              rw [sp_c8 (k := k) (by omega)] at hP hD
              have hP : va_P g.1 vwCl (twW g a (u.1, u.2.1, u.2.2.1, (upd f k ((f k) + (sp_sg q))), u.2.2.2.2.1, u.2.2.2.2.2.1, u.2.2.2.2.2.2.1, u.2.2.2.2.2.2.2)) H := hP
              have hD : va_D A (twW g a (u.1, u.2.1, u.2.2.1, (upd f k ((f k) + (sp_sg q))), u.2.2.2.2.1, u.2.2.2.2.2.1, u.2.2.2.2.2.2.1, u.2.2.2.2.2.2.2)) := hD
              refine lv_iload hx hb dX3_spreadByOnes_50 (lv_at hl 5 rfl) ?_
              refine lv_iload hx hb dX3_spreadByOnes_52 (lv_at hl 4 rfl) ?_
              refine lv_isub hx hb dX3_spreadByOnes_54 ?_
              refine lv_istore (lv' := [(5, .int (x - (sp_sg q))), (0, .ref a.1), (1, .int (nI lo)), (2, .int (nI hi)), (3, .int q), (4, .int (sp_sg q)), (6, .int (nI k))]) hx hb dX3_spreadByOnes_55 hl (by decide) rfl (fun ls hl => ?_)
              refine lv_iinc (v := nI (k + 1)) (lv' := [(6, .int (nI (k + 1))), (5, .int (x - (sp_sg q))), (0, .ref a.1), (1, .int (nI lo)), (2, .int (nI hi)), (3, .int q), (4, .int (sp_sg q))]) hx hb dX3_spreadByOnes_57 hl (k := 6) rfl (nI_1 k) (by decide) rfl (fun ls hl => ?_)
              refine lv_goto (tgt := 17) hx hb dX3_spreadByOnes_60 (by decide) ?_
              exact ih17 (k + 1) (upd f k (f k + sp_sg q)) (x - sp_sg q) _ _ _ (by omega) (by omega) (by have h5 := sp_sg_step c2; rw [hsq] at h5; exact h5) (by rw [← hh, lp_step (sp_s2 P) (show k < hi + 1 by omega), sp_s2_p1 c3 c2 hsq]) (by omega) hP hD hS (lv_sub hl [2, 3, 4, 5, 6, 1, 0] rfl)
    exact hloop17 (_ + 1) lo u.2.2.2.1 q _ _ _ (Nat.le_refl _) (by omega) (Or.inr rfl) (rfl) (Nat.lt_succ_self _) hP hD hS (lv_sub hl [3, 4, 5, 6, 2, 1, 0] rfl)
  refine lv_iload_n hx hb dX3_spreadByOnes_0 rfl (lv_at hl 3 rfl) ?_
  refine lv_if_ge (tgt := 8) hx hb dX3_spreadByOnes_1 (by decide) (fun c1 => ?_) (fun c1 => ?_)
  · refine lv_iconst (v := nI 1) hx hb dX3_spreadByOnes_8 (by decide) ?_
    refine sp_top (y := sp_sg q) (sp_sg_t c1) ?_
    exact hj9  _ _ _  hP hD hS (lv_sub hl [0, 1, 2, 3] rfl)
  · refine lv_iconst (v := (-1)) hx hb dX3_spreadByOnes_4 (by decide) ?_
    refine lv_goto (tgt := 9) hx hb dX3_spreadByOnes_5 (by decide) ?_
    refine sp_top (y := sp_sg q) (sp_sg_f c1) ?_
    exact hj9  _ _ _  hP hD hS (lv_sub hl [0, 1, 2, 3] rfl)

set_option maxHeartbeats 4000000 in
set_option maxRecDepth 100000 in
theorem c_X3_shareAmong (l : Launch) (g : sp_G) (a : sp_A) (u : sp_U) (t : sp_T) (hR : sp_R u t) (hI : sp_I t) (i : Nat) (hi : i < tn t) (q : Int32) : sp_CV l g yX3_shareAmong wsX3_shareAmong ({ frames := 2, cells := 0, slots := 0, locals := 46 }) [.ref a.1, .int (nI i), .int q] (twW g a u) (fun v : sp_U => sp_R v (sp_shr t i q)) (fun v => twW g a v) := by
  refine sp_CV.of (cc := cX3_shareAmong) (maxL := 11) (by decide) rfl (Nat.le_of_ble_eq_true rfl) ?_
  intro p e s m below meth c Q A ls SF hK hP hD hA hl hend
  have hx := SF.1
  have hb := SF.2.1
  have hown : s.vm.findClass RX3 = some m.cls := SF.2.2.2.1
  have hts := SF.2.2.2.2
  have hS : va_S A s.heap s.heap [] := va_S.rf
  have inX3 : ∀ w ∈ wsX30, w ∈ wsX3_shareAmong := fun w h => List.mem_cons_of_mem _ (List.mem_append_right _ h)
  have hl : lv_has ls 11 [(0, .ref a.1), (1, .int (nI i)), (2, .int q)] := hl
  have hn8 := hI.n
  refine lv_aload_n hx hb dX3_shareAmong_0 rfl (lv_at hl 0 rfl) ?_
  refine lv_iload_n hx hb dX3_shareAmong_1 rfl (lv_at hl 1 rfl) ?_
  refine sp_vi0 (n := 1) SF hK hA (c_X3_lowestOf l g a u t hR hI i (by omega)) gX3_shareAmong_X3_lowestOf rfl rfl rfl (by decide +kernel) rfl ⟨Nat.le_of_ble_eq_true rfl, Nat.le_of_ble_eq_true rfl⟩ 3 0 rfl rfl hP hD hS hl.1 rfl (Nat.le_of_ble_eq_true rfl) dX3_shareAmong_2 (fun r9 u9 H locs w1 hP hD hS => ?_)
  subst w1
  have hP : va_P g.1 vwCl (twW g a u) H := hP
  have hD : va_D A (twW g a u) := hD
  refine lv_istore_n (lv' := [(3, .int (nI (sp_low t i))), (0, .ref a.1), (1, .int (nI i)), (2, .int q)]) hx hb dX3_shareAmong_5 rfl hl (by decide) rfl (fun ls hl => ?_)
  refine lv_iload_n hx hb dX3_shareAmong_6 rfl (lv_at hl 0 rfl) ?_
  have hlw := sp_low_le t i
  have hge := sp_le_hi t i
  have hlt := sp_hi_lt hi
  have hr2 := hI.r
  have hj19 : ∀  (H : Heap) (locs : List Loc) (ls : Array Slot), (sp_gr t i = false) → va_P g.1 vwCl (twW g a u) H → va_D A (twW g a u) → va_S A s.heap H locs → lv_has ls 11 [(0, .ref a.1), (1, .int (nI i)), (2, .int q), (3, .int (nI (sp_low t i)))] → W p l e ({ frames := 2, cells := 0, slots := 0, locals := 46 }) s m ([.ref a.1, .int (nI i), .int q] : List Value).toArray below meth c H locs 0 0 Q (F0 m 19 ls []) := by
    intro  H locs ls hgr hP hD hS hl
    refine lv_aload_n hx hb dX3_shareAmong_19 rfl (lv_at hl 0 rfl) ?_
    refine lv_iload_n hx hb dX3_shareAmong_20 rfl (lv_at hl 1 rfl) ?_
    refine sp_vi0 (n := 1) SF hK hA (c_X3_highestOf l g a u t hR hI i hi) gX3_shareAmong_X3_highestOf rfl rfl rfl (by decide +kernel) rfl ⟨Nat.le_of_ble_eq_true rfl, Nat.le_of_ble_eq_true rfl⟩ 3 0 rfl rfl hP hD hS hl.1 rfl (Nat.le_of_ble_eq_true rfl) dX3_shareAmong_21 (fun r9 u9 H locs w2 hP hD hS => ?_)
    subst w2
    have hP : va_P g.1 vwCl (twW g a u) H := hP
    have hD : va_D A (twW g a u) := hD
    refine lv_istore (lv' := [(4, .int (nI (sp_hi t i))), (0, .ref a.1), (1, .int (nI i)), (2, .int q), (3, .int (nI (sp_low t i)))]) hx hb dX3_shareAmong_24 hl (by decide) rfl (fun ls hl => ?_)
    refine lv_aload_n hx hb dX3_shareAmong_26 rfl (lv_at hl 1 rfl) ?_
    refine va_get (D := g.1) (ci := 3) (v := .ref a.2.1) (C := RX3) (T := TX3) (N := 8) hx hb hts inX3 hown hK.1 hP 0 rfl rfl 0 (by decide) (hts _ (List.mem_of_getElem? (i := 1) rfl)) (fun _ h9 => h9) rfl dX3_shareAmong_27 ?_
    refine lv_iconst (v := nI 3) hx hb dX3_shareAmong_30 (by decide) ?_
    refine va_iald hx hb hK.1 hP 1 0 rfl rfl (vp_in_nI (by omega) (by omega)) dX3_shareAmong_31 ?_
    refine sp_top (y := u.1 3) (congrArg u.1 (sp_c8 (k := 3) (by omega))) ?_
    refine sp_top (y := nI (tr t)) (hR.b3) ?_
    refine lv_istore (lv' := [(5, .int (nI (tr t))), (4, .int (nI (sp_hi t i))), (0, .ref a.1), (1, .int (nI i)), (2, .int q), (3, .int (nI (sp_low t i)))]) hx hb dX3_shareAmong_32 hl (by decide) rfl (fun ls hl => ?_)
    refine lv_lconst (v := lN 0) hx hb dX3_shareAmong_34 (by decide) ?_
    refine lv_lstore (lv' := [(6, .long (lN 0)), (5, .int (nI (tr t))), (4, .int (nI (sp_hi t i))), (0, .ref a.1), (1, .int (nI i)), (2, .int q), (3, .int (nI (sp_low t i)))]) hx hb dX3_shareAmong_35 hl (by decide) rfl (fun ls hl => ?_)
    refine lv_iload_n hx hb dX3_shareAmong_37 rfl (lv_at hl 6 rfl) ?_
    refine lv_istore (lv' := [(8, .int (nI (sp_low t i))), (6, .long (lN 0)), (5, .int (nI (tr t))), (4, .int (nI (sp_hi t i))), (0, .ref a.1), (1, .int (nI i)), (2, .int q), (3, .int (nI (sp_low t i)))]) hx hb dX3_shareAmong_38 hl (by decide) rfl (fun ls hl => ?_)
    have hloop40 : ∀ (n40 : Nat) (k : Nat) (al : Nat) (pf : Nat → Int32) (H : Heap) (locs : List Loc) (ls : Array Slot), (sp_low t i ≤ k) → (k ≤ sp_hi t i + 1) → (∀ j, sp_low t i ≤ j → j < k → pf j = nI (sp_prt t j)) → (lp (sp_als (sp_prt t)) (sp_hi t i + 1 - k) k al = sp_al0 t (sp_low t i) (sp_hi t i)) → (al ≤ 200000 * k) → sp_hi t i + 1 - k < n40 → va_P g.1 vwCl (twW g a (u.1, u.2.1, u.2.2.1, u.2.2.2.1, pf, u.2.2.2.2.2.1, u.2.2.2.2.2.2.1, u.2.2.2.2.2.2.2)) H → va_D A (twW g a (u.1, u.2.1, u.2.2.1, u.2.2.2.1, pf, u.2.2.2.2.2.1, u.2.2.2.2.2.2.1, u.2.2.2.2.2.2.2)) → va_S A s.heap H locs → lv_has ls 11 [(0, .ref a.1), (1, .int (nI i)), (2, .int q), (3, .int (nI (sp_low t i))), (4, .int (nI (sp_hi t i))), (5, .int (nI (tr t))), (6, .long (lN al)), (8, .int (nI k))] → W p l e ({ frames := 2, cells := 0, slots := 0, locals := 46 }) s m ([.ref a.1, .int (nI i), .int q] : List Value).toArray below meth c H locs 0 0 Q (F0 m 40 ls []) := by
      intro n40
      induction n40 with
      | zero =>
        intro k al pf H locs ls hk1 hk2 hpf hal hab h9
        exact absurd h9 (Nat.not_lt_zero _)
      | succ n40 ih40 =>
        intro k al pf H locs ls hk1 hk2 hpf hal hab hm40 hP hD hS hl
        have hpk := sp_prt_le hI k
        have hak := sp_age_le hI k
        refine lv_iload hx hb dX3_shareAmong_40 (lv_at hl 7 rfl) ?_
        refine lv_iload hx hb dX3_shareAmong_42 (lv_at hl 4 rfl) ?_
        refine lv_icmp_gt (tgt := 113) hx hb dX3_shareAmong_44 (by decide) (fun c4 => ?_) (fun c4 => ?_)
        · have c4 := (nI_ltI (by omega) (by omega)).mp c4
          have hal2 : sp_al0 t (sp_low t i) (sp_hi t i) = al := by rw [← hal, lp_end _ (by omega)]
          have hj141 : ∀ (pf : Nat → Int32) (H : Heap) (locs : List Loc) (ls : Array Slot), (∀ j, sp_low t i ≤ j → j ≤ sp_hi t i → pf j = nI ((sp_P t (sp_low t i) (sp_hi t i)) j)) → va_P g.1 vwCl (twW g a (u.1, u.2.1, u.2.2.1, u.2.2.2.1, pf, u.2.2.2.2.2.1, u.2.2.2.2.2.2.1, u.2.2.2.2.2.2.2)) H → va_D A (twW g a (u.1, u.2.1, u.2.2.1, u.2.2.2.1, pf, u.2.2.2.2.2.1, u.2.2.2.2.2.2.1, u.2.2.2.2.2.2.2)) → va_S A s.heap H locs → lv_has ls 11 [(0, .ref a.1), (1, .int (nI i)), (2, .int q), (3, .int (nI (sp_low t i))), (4, .int (nI (sp_hi t i))), (6, .long (lN (sp_al t (sp_low t i) (sp_hi t i))))] → W p l e ({ frames := 2, cells := 0, slots := 0, locals := 46 }) s m ([.ref a.1, .int (nI i), .int q] : List Value).toArray below meth c H locs 0 0 Q (F0 m 141 ls []) := by
            intro pf H locs ls hpf hP hD hS hl
            refine lv_iload_n hx hb dX3_shareAmong_141 rfl (lv_at hl 2 rfl) ?_
            refine lv_istore (lv' := [(8, .int q), (0, .ref a.1), (1, .int (nI i)), (2, .int q), (3, .int (nI (sp_low t i))), (4, .int (nI (sp_hi t i))), (6, .long (lN (sp_al t (sp_low t i) (sp_hi t i))))]) hx hb dX3_shareAmong_142 hl (by decide) rfl (fun ls hl => ?_)
            refine lv_iload_n hx hb dX3_shareAmong_144 rfl (lv_at hl 4 rfl) ?_
            refine lv_istore (lv' := [(9, .int (nI (sp_low t i))), (8, .int q), (0, .ref a.1), (1, .int (nI i)), (2, .int q), (3, .int (nI (sp_low t i))), (4, .int (nI (sp_hi t i))), (6, .long (lN (sp_al t (sp_low t i) (sp_hi t i))))]) hx hb dX3_shareAmong_145 hl (by decide) rfl (fun ls hl => ?_)
            have hloop147 : ∀ (n147 : Nat) (k : Nat) (f : Nat → Int32) (x : Int32) (H : Heap) (locs : List Loc) (ls : Array Slot), (sp_low t i ≤ k) → (k ≤ sp_hi t i + 1) → (lp (sp_s1 q (sp_P t (sp_low t i) (sp_hi t i)) (sp_al t (sp_low t i) (sp_hi t i))) (sp_hi t i + 1 - k) k (f, x) = lp (sp_s1 q (sp_P t (sp_low t i) (sp_hi t i)) (sp_al t (sp_low t i) (sp_hi t i))) (sp_hi t i + 1 - sp_low t i) (sp_low t i) (u.2.2.2.1, q)) → sp_hi t i + 1 - k < n147 → va_P g.1 vwCl (twW g a (u.1, u.2.1, u.2.2.1, f, pf, u.2.2.2.2.2.1, u.2.2.2.2.2.2.1, u.2.2.2.2.2.2.2)) H → va_D A (twW g a (u.1, u.2.1, u.2.2.1, f, pf, u.2.2.2.2.2.1, u.2.2.2.2.2.2.1, u.2.2.2.2.2.2.2)) → va_S A s.heap H locs → lv_has ls 11 [(0, .ref a.1), (2, .int q), (3, .int (nI (sp_low t i))), (4, .int (nI (sp_hi t i))), (6, .long (lN (sp_al t (sp_low t i) (sp_hi t i)))), (8, .int x), (9, .int (nI k))] → W p l e ({ frames := 2, cells := 0, slots := 0, locals := 46 }) s m ([.ref a.1, .int (nI i), .int q] : List Value).toArray below meth c H locs 0 0 Q (F0 m 147 ls []) := by
              intro n147
              induction n147 with
              | zero =>
                intro k f x H locs ls hk1 hk2 hh h9
                exact absurd h9 (Nat.not_lt_zero _)
              | succ n147 ih147 =>
                intro k f x H locs ls hk1 hk2 hh hm147 hP hD hS hl
                refine lv_iload hx hb dX3_shareAmong_147 (lv_at hl 6 rfl) ?_
                refine lv_iload hx hb dX3_shareAmong_149 (lv_at hl 3 rfl) ?_
                refine lv_icmp_gt (tgt := 196) hx hb dX3_shareAmong_151 (by decide) (fun c6 => ?_) (fun c6 => ?_)
                · have c6 := (nI_ltI (by omega) (by omega)).mp c6
                  refine lv_aload_n hx hb dX3_shareAmong_196 rfl (lv_at hl 0 rfl) ?_
                  refine lv_iload_n hx hb dX3_shareAmong_197 rfl (lv_at hl 2 rfl) ?_
                  refine lv_iload hx hb dX3_shareAmong_198 (lv_at hl 3 rfl) ?_
                  refine lv_iload hx hb dX3_shareAmong_200 (lv_at hl 5 rfl) ?_
                  refine sp_vv0 (n := 3) SF hK hA (c_X3_spreadByOnes l g a (u.1, u.2.1, u.2.2.1, f, pf, u.2.2.2.2.2.1, u.2.2.2.2.2.2.1, u.2.2.2.2.2.2.2) (sp_P t (sp_low t i) (sp_hi t i)) (sp_low t i) (sp_hi t i) (by omega) (by omega) (fun j h1 h2 => ⟨hpf j h1 h2, Nat.lt_of_le_of_lt (sp_P_le hI _ _ j) (by omega)⟩) x) gX3_shareAmong_X3_spreadByOnes rfl rfl rfl (by decide +kernel) rfl ⟨Nat.le_of_ble_eq_true rfl, Nat.le_of_ble_eq_true rfl⟩ 3 0 rfl rfl hP hD hS hl.1 rfl (Nat.le_of_ble_eq_true rfl) dX3_shareAmong_202 (fun u9 H locs w3 hP hD hS => ?_)
                  have hP : va_P g.1 vwCl (twW g a (u.1, u.2.1, u.2.2.1, (lp (sp_s2 (sp_P t (sp_low t i) (sp_hi t i))) (sp_hi t i + 1 - sp_low t i) (sp_low t i) (f, x)).1, pf, u.2.2.2.2.2.1, u.2.2.2.2.2.2.1, u.2.2.2.2.2.2.2)) H := hP
                  have hD : va_D A (twW g a (u.1, u.2.1, u.2.2.1, (lp (sp_s2 (sp_P t (sp_low t i) (sp_hi t i))) (sp_hi t i + 1 - sp_low t i) (sp_low t i) (f, x)).1, pf, u.2.2.2.2.2.1, u.2.2.2.2.2.2.1, u.2.2.2.2.2.2.2)) := hD
                  exact hend _ _ _ _ (u.1, u.2.1, u.2.2.1, (lp (sp_s2 (sp_P t (sp_low t i) (sp_hi t i))) (sp_hi t i + 1 - sp_low t i) (sp_low t i) (f, x)).1, pf, u.2.2.2.2.2.1, u.2.2.2.2.2.2.1, u.2.2.2.2.2.2.2) dX3_shareAmong_205 (sp_R_shr hR hi hgr (by rw [← hh, lp_end _ (by omega)])) hP hD hS
                · have c6 := mt (nI_ltI (by omega) (by omega)).mpr c6
                  refine lv_iload_n hx hb dX3_shareAmong_154 rfl (lv_at hl 1 rfl) ?_
                  refine lv_i2l (v := q.toInt64) hx hb dX3_shareAmong_155 (rfl) ?_
                  refine lv_aload_n hx hb dX3_shareAmong_156 rfl (lv_at hl 0 rfl) ?_
                  refine va_get (D := g.1) (ci := 3) (v := .ref a.2.2.2.2.2) (C := RX3) (T := TX3) (N := 8) hx hb hts inX3 hown hK.1 hP 0 rfl rfl 4 (by decide) (hts _ (List.mem_of_getElem? (i := 2) rfl)) (fun _ h9 => h9) rfl dX3_shareAmong_157 ?_
                  refine lv_iload hx hb dX3_shareAmong_160 (lv_at hl 6 rfl) ?_
                  refine va_iald hx hb hK.1 hP 5 0 rfl rfl (vp_in_nI (by omega) (by omega)) dX3_shareAmong_162 ?_
                  refine sp_top (y := pf k) (congrArg pf (sp_c8 (k := k) (by omega))) ?_
                  refine sp_top (y := nI ((sp_P t (sp_low t i) (sp_hi t i)) k)) (hpf k hk1 (by omega)) ?_
                  refine lv_i2l (v := lN ((sp_P t (sp_low t i) (sp_hi t i)) k)) hx hb dX3_shareAmong_163 (nI_l (Nat.lt_of_le_of_lt (sp_P_le hI _ _ k) (by omega))) ?_
                  refine lv_lmul hx hb dX3_shareAmong_164 ?_
                  refine lv_lload hx hb dX3_shareAmong_165 (lv_at hl 4 rfl) ?_
                  refine lv_ldiv hx hb dX3_shareAmong_167 (sp_lne (sp_al_pos (by omega)) (Nat.lt_of_le_of_lt (sp_al_le hI (by omega)) (by omega))) ?_
                  refine lv_l2i (v := sp_got q ((sp_P t (sp_low t i) (sp_hi t i)) k) (sp_al t (sp_low t i) (sp_hi t i))) hx hb dX3_shareAmong_168 (rfl) ?_
                  refine lv_istore (lv' := [(10, .int (sp_got q ((sp_P t (sp_low t i) (sp_hi t i)) k) (sp_al t (sp_low t i) (sp_hi t i)))), (0, .ref a.1), (2, .int q), (3, .int (nI (sp_low t i))), (4, .int (nI (sp_hi t i))), (6, .long (lN (sp_al t (sp_low t i) (sp_hi t i)))), (8, .int x), (9, .int (nI k))]) hx hb dX3_shareAmong_169 hl (by decide) rfl (fun ls hl => ?_)
                  refine lv_aload_n hx hb dX3_shareAmong_171 rfl (lv_at hl 1 rfl) ?_
                  refine va_get (D := g.1) (ci := 3) (v := .ref a.2.2.2.2.1) (C := RX3) (T := TX3) (N := 8) hx hb hts inX3 hown hK.1 hP 0 rfl rfl 3 (by decide) (hts _ (List.mem_of_getElem? (i := 10) rfl)) (fun _ h9 => h9) rfl dX3_shareAmong_172 ?_
                  refine lv_iload hx hb dX3_shareAmong_175 (lv_at hl 7 rfl) ?_
                  refine lv_dup2_11 hx hb dX3_shareAmong_177 rfl rfl ?_
                  refine va_iald hx hb hK.1 hP 4 0 rfl rfl (vp_in_nI (by omega) (by omega)) dX3_shareAmong_178 ?_
                  refine sp_top (y := f k) (congrArg f (sp_c8 (k := k) (by omega))) ?_
                  refine lv_iload hx hb dX3_shareAmong_179 (lv_at hl 0 rfl) ?_
                  refine lv_iadd hx hb dX3_shareAmong_181 ?_
                  refine va_iast hx hb hK.1 hP hD hS 4 0 rfl rfl (vp_in_nI (by omega) (by omega)) dX3_shareAmong_182 (fun H locs hP hD hS => ?_)
                  rw [sp_c8 (k := k) (by omega)] at hP hD
                  have hP : va_P g.1 vwCl (twW g a (u.1, u.2.1, u.2.2.1, (upd f k ((f k) + (sp_got q ((sp_P t (sp_low t i) (sp_hi t i)) k) (sp_al t (sp_low t i) (sp_hi t i))))), pf, u.2.2.2.2.2.1, u.2.2.2.2.2.2.1, u.2.2.2.2.2.2.2)) H := hP
                  have hD : va_D A (twW g a (u.1, u.2.1, u.2.2.1, (upd f k ((f k) + (sp_got q ((sp_P t (sp_low t i) (sp_hi t i)) k) (sp_al t (sp_low t i) (sp_hi t i))))), pf, u.2.2.2.2.2.1, u.2.2.2.2.2.2.1, u.2.2.2.2.2.2.2)) := hD
                  refine lv_iload hx hb dX3_shareAmong_183 (lv_at hl 6 rfl) ?_
                  refine lv_iload hx hb dX3_shareAmong_185 (lv_at hl 0 rfl) ?_
                  refine lv_isub hx hb dX3_shareAmong_187 ?_
                  refine lv_istore (lv' := [(8, .int (x - (sp_got q ((sp_P t (sp_low t i) (sp_hi t i)) k) (sp_al t (sp_low t i) (sp_hi t i))))), (10, .int (sp_got q ((sp_P t (sp_low t i) (sp_hi t i)) k) (sp_al t (sp_low t i) (sp_hi t i)))), (0, .ref a.1), (2, .int q), (3, .int (nI (sp_low t i))), (4, .int (nI (sp_hi t i))), (6, .long (lN (sp_al t (sp_low t i) (sp_hi t i)))), (9, .int (nI k))]) hx hb dX3_shareAmong_188 hl (by decide) rfl (fun ls hl => ?_)
                  refine lv_iinc (v := nI (k + 1)) (lv' := [(9, .int (nI (k + 1))), (8, .int (x - (sp_got q ((sp_P t (sp_low t i) (sp_hi t i)) k) (sp_al t (sp_low t i) (sp_hi t i))))), (10, .int (sp_got q ((sp_P t (sp_low t i) (sp_hi t i)) k) (sp_al t (sp_low t i) (sp_hi t i)))), (0, .ref a.1), (2, .int q), (3, .int (nI (sp_low t i))), (4, .int (nI (sp_hi t i))), (6, .long (lN (sp_al t (sp_low t i) (sp_hi t i))))]) hx hb dX3_shareAmong_190 hl (k := 7) rfl (nI_1 k) (by decide) rfl (fun ls hl => ?_)
                  refine lv_goto (tgt := 147) hx hb dX3_shareAmong_193 (by decide) ?_
                  exact ih147 (k + 1) (upd f k (f k + sp_got q ((sp_P t (sp_low t i) (sp_hi t i)) k) (sp_al t (sp_low t i) (sp_hi t i)))) (x - sp_got q ((sp_P t (sp_low t i) (sp_hi t i)) k) (sp_al t (sp_low t i) (sp_hi t i))) _ _ _ (by omega) (by omega) (by rw [← hh, lp_step (sp_s1 q (sp_P t (sp_low t i) (sp_hi t i)) (sp_al t (sp_low t i) (sp_hi t i))) (show k < sp_hi t i + 1 by omega)]; rfl) (by omega) hP hD hS (lv_sub hl [3, 4, 5, 6, 7, 1, 0] rfl)
            exact hloop147 (_ + 1) (sp_low t i) u.2.2.2.1 q _ _ _ (Nat.le_refl _) (by omega) (rfl) (Nat.lt_succ_self _) hP hD hS (lv_sub hl [2, 4, 5, 6, 7, 1, 0] rfl)
          refine lv_lload hx hb dX3_shareAmong_113 (lv_at hl 6 rfl) ?_
          refine lv_lconst (v := lN 0) hx hb dX3_shareAmong_115 (by decide) ?_
          refine W.lcmp hx hb dX3_shareAmong_116 ?_
          refine lv_if_gt (tgt := 141) hx hb dX3_shareAmong_117 (by decide) (fun c5 => ?_) (fun c5 => ?_)
          · have c5 := (sp_cmp (by omega)).mp c5
            have hz : ¬ sp_al0 t (sp_low t i) (sp_hi t i) = 0 := by omega
            have hal3 : al = sp_al t (sp_low t i) (sp_hi t i) := by unfold sp_al; rw [if_neg hz]; exact hal2.symm
            subst hal3
            exact hj141 pf _ _ _ (fun j h1 h2 => by rw [hpf j h1 (by omega)]; unfold sp_P; rw [if_neg hz]) hP hD hS (lv_sub hl [0, 1, 2, 3, 4, 6] rfl)
          · have c5 := mt (sp_cmp (by omega)).mpr c5
            have hz : sp_al0 t (sp_low t i) (sp_hi t i) = 0 := by omega
            refine lv_aload_n hx hb dX3_shareAmong_120 rfl (lv_at hl 0 rfl) ?_
            refine va_get (D := g.1) (ci := 3) (v := .ref a.2.2.2.2.2) (C := RX3) (T := TX3) (N := 8) hx hb hts inX3 hown hK.1 hP 0 rfl rfl 4 (by decide) (hts _ (List.mem_of_getElem? (i := 2) rfl)) (fun _ h9 => h9) rfl dX3_shareAmong_121 ?_
            refine lv_iconst (v := nI 1) hx hb dX3_shareAmong_124 (by decide) ?_
            have hP := sp_P_perm (w2 := arW g a.2.2.2.2.2 pf ++ twH g a (u.1, u.2.1, u.2.2.1, u.2.2.2.1, pf, u.2.2.2.2.2.1, u.2.2.2.2.2.2.1, u.2.2.2.2.2.2.2)) (List.perm_append_comm (l₁ := twH g a (u.1, u.2.1, u.2.2.1, u.2.2.2.1, pf, u.2.2.2.2.2.1, u.2.2.2.2.2.2.1, u.2.2.2.2.2.2.2)) (l₂ := arW g a.2.2.2.2.2 pf)) hP
            have hD := sp_D_perm (w2 := arW g a.2.2.2.2.2 pf ++ twH g a (u.1, u.2.1, u.2.2.1, u.2.2.2.1, pf, u.2.2.2.2.2.1, u.2.2.2.2.2.2.1, u.2.2.2.2.2.2.2)) (List.perm_append_comm (l₁ := twH g a (u.1, u.2.1, u.2.2.1, u.2.2.2.1, pf, u.2.2.2.2.2.1, u.2.2.2.2.2.2.1, u.2.2.2.2.2.2.2)) (l₂ := arW g a.2.2.2.2.2 pf)) hD
            refine sp_sv (n := 2) SF hK hA (c_J7_fill_53178 l g a.2.2.2.2.2 pf (nI 1)) gX3_shareAmong_J7_fill_53178 rfl rfl rfl (by decide +kernel) rfl ⟨Nat.le_of_ble_eq_true rfl, Nat.le_of_ble_eq_true rfl⟩ hP hD hS hl.1 rfl (Nat.le_of_ble_eq_true rfl) dX3_shareAmong_125 (fun pf2 H locs hf2 hP hD hS => ?_)
            have hP := sp_P_perm (List.perm_append_comm (l₁ := arW g a.2.2.2.2.2 pf2) (l₂ := twH g a (u.1, u.2.1, u.2.2.1, u.2.2.2.1, pf, u.2.2.2.2.2.1, u.2.2.2.2.2.2.1, u.2.2.2.2.2.2.2))) hP
            have hD := sp_D_perm (List.perm_append_comm (l₁ := arW g a.2.2.2.2.2 pf2) (l₂ := twH g a (u.1, u.2.1, u.2.2.1, u.2.2.2.1, pf, u.2.2.2.2.2.1, u.2.2.2.2.2.2.1, u.2.2.2.2.2.2.2))) hD
            have hP : va_P g.1 vwCl (twW g a (u.1, u.2.1, u.2.2.1, u.2.2.2.1, pf2, u.2.2.2.2.2.1, u.2.2.2.2.2.2.1, u.2.2.2.2.2.2.2)) H := hP
            have hD : va_D A (twW g a (u.1, u.2.1, u.2.2.1, u.2.2.2.1, pf2, u.2.2.2.2.2.1, u.2.2.2.2.2.2.1, u.2.2.2.2.2.2.2)) := hD
            refine lv_iconst (v := nI 1) hx hb dX3_shareAmong_128 (by decide) ?_
            refine lv_iload hx hb dX3_shareAmong_129 (lv_at hl 4 rfl) ?_
            refine lv_iload_n hx hb dX3_shareAmong_131 rfl (lv_at hl 3 rfl) ?_
            refine lv_isub hx hb dX3_shareAmong_132 ?_
            refine sp_top (y := nI (sp_hi t i - sp_low t i)) (sp_sub (by omega)) ?_
            refine lv_iconst (v := nI 1) hx hb dX3_shareAmong_133 (by decide) ?_
            refine lv_iadd hx hb dX3_shareAmong_134 ?_
            refine sp_top (y := nI ((sp_hi t i - sp_low t i) + 1)) (nI_add _ _) ?_
            refine va_mmax hx hb (by rw [SF.2.2.1]; exact hl.1.symm) hown (hts _ (List.mem_of_getElem? (i := 7) rfl)) (hts _ (List.mem_of_getElem? (i := 8) rfl)) (hts _ (List.mem_of_getElem? (i := 5) rfl)) (hts _ (List.mem_of_getElem? (i := 9) rfl)) (Nat.le_of_ble_eq_true rfl) (Nat.le_of_ble_eq_true rfl) (Nat.zero_le _) (Nat.zero_le _) dX3_shareAmong_135 ?_
            refine sp_top (y := nI (sp_hi t i + 1 - sp_low t i)) (sp_mx (by omega) (by omega)) ?_
            refine lv_i2l (v := lN (sp_al t (sp_low t i) (sp_hi t i))) hx hb dX3_shareAmong_138 (by unfold sp_al; rw [if_pos hz]; exact nI_l (by omega)) ?_
            refine lv_lstore (lv' := [(6, .long (lN (sp_al t (sp_low t i) (sp_hi t i)))), (0, .ref a.1), (1, .int (nI i)), (2, .int q), (3, .int (nI (sp_low t i))), (4, .int (nI (sp_hi t i))), (5, .int (nI (tr t))), (8, .int (nI k))]) hx hb dX3_shareAmong_139 hl (by decide) rfl (fun ls hl => ?_)
            exact hj141 pf2 _ _ _ (fun j h1 h2 => by rw [hf2 j (by omega)]; unfold sp_P; rw [if_pos hz]) hP hD hS (lv_sub hl [1, 2, 3, 4, 5, 0] rfl)
        · have c4 := mt (nI_ltI (by omega) (by omega)).mpr c4
          refine lv_aload_n hx hb dX3_shareAmong_47 rfl (lv_at hl 0 rfl) ?_
          refine lv_iload hx hb dX3_shareAmong_48 (lv_at hl 7 rfl) ?_
          refine sp_vi0 (n := 1) SF hK hA (c_X3_ageOf l g a (u.1, u.2.1, u.2.2.1, u.2.2.2.1, pf, u.2.2.2.2.2.1, u.2.2.2.2.2.2.1, u.2.2.2.2.2.2.2) t hR hI k (by omega)) gX3_shareAmong_X3_ageOf rfl rfl rfl (by decide +kernel) rfl ⟨Nat.le_of_ble_eq_true rfl, Nat.le_of_ble_eq_true rfl⟩ 3 0 rfl rfl hP hD hS hl.1 rfl (Nat.le_of_ble_eq_true rfl) dX3_shareAmong_50 (fun r9 u9 H locs w4 hP hD hS => ?_)
          subst w4
          have hP : va_P g.1 vwCl (twW g a (u.1, u.2.1, u.2.2.1, u.2.2.2.1, pf, u.2.2.2.2.2.1, u.2.2.2.2.2.2.1, u.2.2.2.2.2.2.2)) H := hP
          have hD : va_D A (twW g a (u.1, u.2.1, u.2.2.1, u.2.2.2.1, pf, u.2.2.2.2.2.1, u.2.2.2.2.2.2.1, u.2.2.2.2.2.2.2)) := hD
          refine lv_istore (lv' := [(9, .int (nI (sp_age t k))), (0, .ref a.1), (1, .int (nI i)), (2, .int q), (3, .int (nI (sp_low t i))), (4, .int (nI (sp_hi t i))), (5, .int (nI (tr t))), (6, .long (lN al)), (8, .int (nI k))]) hx hb dX3_shareAmong_53 hl (by decide) rfl (fun ls hl => ?_)
          refine lv_aload_n hx hb dX3_shareAmong_55 rfl (lv_at hl 1 rfl) ?_
          refine va_get (D := g.1) (ci := 3) (v := .ref a.2.2.2.2.2) (C := RX3) (T := TX3) (N := 8) hx hb hts inX3 hown hK.1 hP 0 rfl rfl 4 (by decide) (hts _ (List.mem_of_getElem? (i := 2) rfl)) (fun _ h9 => h9) rfl dX3_shareAmong_56 ?_
          refine lv_iload hx hb dX3_shareAmong_59 (lv_at hl 8 rfl) ?_
          refine lv_iload hx hb dX3_shareAmong_61 (lv_at hl 6 rfl) ?_
          refine lv_iconst (v := nI 1) hx hb dX3_shareAmong_63 (by decide) ?_
          refine lv_icmp_ne (tgt := 76) hx hb dX3_shareAmong_64 (by decide) (fun cr1 => ?_) (fun cr1 => ?_)
          · have cr1 := mt (nI_eq (by omega) (by omega)).mpr cr1
            refine lv_iload hx hb dX3_shareAmong_76 (lv_at hl 6 rfl) ?_
            refine lv_iconst (v := nI 2) hx hb dX3_shareAmong_78 (by decide) ?_
            refine lv_icmp_ne (tgt := 87) hx hb dX3_shareAmong_79 (by decide) (fun cr2 => ?_) (fun cr2 => ?_)
            · have cr2 := mt (nI_eq (by omega) (by omega)).mpr cr2
              refine lv_iload hx hb dX3_shareAmong_87 (lv_at hl 0 rfl) ?_
              refine lv_iconst (v := nI 1) hx hb dX3_shareAmong_89 (by decide) ?_
              refine va_mmin hx hb (by rw [SF.2.2.1]; exact hl.1.symm) hown (hts _ (List.mem_of_getElem? (i := 3) rfl)) (hts _ (List.mem_of_getElem? (i := 4) rfl)) (hts _ (List.mem_of_getElem? (i := 5) rfl)) (hts _ (List.mem_of_getElem? (i := 6) rfl)) (Nat.le_of_ble_eq_true rfl) (Nat.le_of_ble_eq_true rfl) (Nat.zero_le _) (Nat.zero_le _) dX3_shareAmong_90 ?_
              refine sp_top (y := nI (sp_prt t k)) (sp_prt_0 hI cr1 cr2) ?_
              refine va_iast hx hb hK.1 hP hD hS 5 0 rfl rfl (vp_in_nI (by omega) (by omega)) dX3_shareAmong_93 (fun H locs hP hD hS => ?_)
              rw [sp_c8 (k := k) (by omega)] at hP hD
              have hP : va_P g.1 vwCl (twW g a (u.1, u.2.1, u.2.2.1, u.2.2.2.1, (upd pf k (nI (sp_prt t k))), u.2.2.2.2.2.1, u.2.2.2.2.2.2.1, u.2.2.2.2.2.2.2)) H := hP
              have hD : va_D A (twW g a (u.1, u.2.1, u.2.2.1, u.2.2.2.1, (upd pf k (nI (sp_prt t k))), u.2.2.2.2.2.1, u.2.2.2.2.2.2.1, u.2.2.2.2.2.2.2)) := hD
              refine lv_lload hx hb dX3_shareAmong_94 (lv_at hl 7 rfl) ?_
              refine lv_aload_n hx hb dX3_shareAmong_96 rfl (lv_at hl 1 rfl) ?_
              refine va_get (D := g.1) (ci := 3) (v := .ref a.2.2.2.2.2) (C := RX3) (T := TX3) (N := 8) hx hb hts inX3 hown hK.1 hP 0 rfl rfl 4 (by decide) (hts _ (List.mem_of_getElem? (i := 2) rfl)) (fun _ h9 => h9) rfl dX3_shareAmong_97 ?_
              refine lv_iload hx hb dX3_shareAmong_100 (lv_at hl 8 rfl) ?_
              refine va_iald hx hb hK.1 hP 5 0 rfl rfl (vp_in_nI (by omega) (by omega)) dX3_shareAmong_102 ?_
              refine sp_top (y := (upd pf k (nI (sp_prt t k))) k) (congrArg (upd pf k (nI (sp_prt t k))) (sp_c8 (k := k) (by omega))) ?_
              refine sp_top (y := nI (sp_prt t k)) (sp_upd_s) ?_
              refine lv_i2l (v := lN (sp_prt t k)) hx hb dX3_shareAmong_103 (nI_l (by omega)) ?_
              refine lv_ladd hx hb dX3_shareAmong_104 ?_
              refine sp_top_l (y := lN (al + sp_prt t k)) (lN_add _ _) ?_
              refine lv_lstore (lv' := [(6, .long (lN (al + sp_prt t k))), (9, .int (nI (sp_age t k))), (0, .ref a.1), (1, .int (nI i)), (2, .int q), (3, .int (nI (sp_low t i))), (4, .int (nI (sp_hi t i))), (5, .int (nI (tr t))), (8, .int (nI k))]) hx hb dX3_shareAmong_105 hl (by decide) rfl (fun ls hl => ?_)
              refine lv_iinc (v := nI (k + 1)) (lv' := [(8, .int (nI (k + 1))), (6, .long (lN (al + sp_prt t k))), (9, .int (nI (sp_age t k))), (0, .ref a.1), (1, .int (nI i)), (2, .int q), (3, .int (nI (sp_low t i))), (4, .int (nI (sp_hi t i))), (5, .int (nI (tr t)))]) hx hb dX3_shareAmong_107 hl (k := 8) rfl (nI_1 k) (by decide) rfl (fun ls hl => ?_)
              refine lv_goto (tgt := 40) hx hb dX3_shareAmong_110 (by decide) ?_
              exact ih40 (k + 1) (al + sp_prt t k) (upd pf k (nI (sp_prt t k))) _ _ _ (by omega) (by omega) (sp_upd_ext (F := fun j => nI (sp_prt t j)) hpf rfl) (by rw [← hal, lp_step (sp_als (sp_prt t)) (show k < sp_hi t i + 1 by omega)]; rfl) (by omega) (by omega) hP hD hS (lv_sub hl [3, 4, 5, 6, 7, 8, 1, 0] rfl)
            · have cr2 := (nI_eq (by omega) (by omega)).mp cr2
              refine lv_iload hx hb dX3_shareAmong_82 (lv_at hl 0 rfl) ?_
              refine lv_goto (tgt := 93) hx hb dX3_shareAmong_84 (by decide) ?_
              refine sp_top (y := nI (sp_prt t k)) (congrArg nI (sp_prt_2 cr2)) ?_
              refine va_iast hx hb hK.1 hP hD hS 5 0 rfl rfl (vp_in_nI (by omega) (by omega)) dX3_shareAmong_93 (fun H locs hP hD hS => ?_)
              rw [sp_c8 (k := k) (by omega)] at hP hD
              have hP : va_P g.1 vwCl (twW g a (u.1, u.2.1, u.2.2.1, u.2.2.2.1, (upd pf k (nI (sp_prt t k))), u.2.2.2.2.2.1, u.2.2.2.2.2.2.1, u.2.2.2.2.2.2.2)) H := hP
              have hD : va_D A (twW g a (u.1, u.2.1, u.2.2.1, u.2.2.2.1, (upd pf k (nI (sp_prt t k))), u.2.2.2.2.2.1, u.2.2.2.2.2.2.1, u.2.2.2.2.2.2.2)) := hD
              refine lv_lload hx hb dX3_shareAmong_94 (lv_at hl 7 rfl) ?_
              refine lv_aload_n hx hb dX3_shareAmong_96 rfl (lv_at hl 1 rfl) ?_
              refine va_get (D := g.1) (ci := 3) (v := .ref a.2.2.2.2.2) (C := RX3) (T := TX3) (N := 8) hx hb hts inX3 hown hK.1 hP 0 rfl rfl 4 (by decide) (hts _ (List.mem_of_getElem? (i := 2) rfl)) (fun _ h9 => h9) rfl dX3_shareAmong_97 ?_
              refine lv_iload hx hb dX3_shareAmong_100 (lv_at hl 8 rfl) ?_
              refine va_iald hx hb hK.1 hP 5 0 rfl rfl (vp_in_nI (by omega) (by omega)) dX3_shareAmong_102 ?_
              refine sp_top (y := (upd pf k (nI (sp_prt t k))) k) (congrArg (upd pf k (nI (sp_prt t k))) (sp_c8 (k := k) (by omega))) ?_
              refine sp_top (y := nI (sp_prt t k)) (sp_upd_s) ?_
              refine lv_i2l (v := lN (sp_prt t k)) hx hb dX3_shareAmong_103 (nI_l (by omega)) ?_
              refine lv_ladd hx hb dX3_shareAmong_104 ?_
              refine sp_top_l (y := lN (al + sp_prt t k)) (lN_add _ _) ?_
              refine lv_lstore (lv' := [(6, .long (lN (al + sp_prt t k))), (9, .int (nI (sp_age t k))), (0, .ref a.1), (1, .int (nI i)), (2, .int q), (3, .int (nI (sp_low t i))), (4, .int (nI (sp_hi t i))), (5, .int (nI (tr t))), (8, .int (nI k))]) hx hb dX3_shareAmong_105 hl (by decide) rfl (fun ls hl => ?_)
              refine lv_iinc (v := nI (k + 1)) (lv' := [(8, .int (nI (k + 1))), (6, .long (lN (al + sp_prt t k))), (9, .int (nI (sp_age t k))), (0, .ref a.1), (1, .int (nI i)), (2, .int q), (3, .int (nI (sp_low t i))), (4, .int (nI (sp_hi t i))), (5, .int (nI (tr t)))]) hx hb dX3_shareAmong_107 hl (k := 8) rfl (nI_1 k) (by decide) rfl (fun ls hl => ?_)
              refine lv_goto (tgt := 40) hx hb dX3_shareAmong_110 (by decide) ?_
              exact ih40 (k + 1) (al + sp_prt t k) (upd pf k (nI (sp_prt t k))) _ _ _ (by omega) (by omega) (sp_upd_ext (F := fun j => nI (sp_prt t j)) hpf rfl) (by rw [← hal, lp_step (sp_als (sp_prt t)) (show k < sp_hi t i + 1 by omega)]; rfl) (by omega) (by omega) hP hD hS (lv_sub hl [3, 4, 5, 6, 7, 8, 1, 0] rfl)
          · have cr1 := (nI_eq (by omega) (by omega)).mp cr1
            refine lv_aload_n hx hb dX3_shareAmong_67 rfl (lv_at hl 1 rfl) ?_
            refine lv_iload hx hb dX3_shareAmong_68 (lv_at hl 8 rfl) ?_
            refine sp_vi0 (n := 1) SF hK hA (c_X3_strengthOf l g a (u.1, u.2.1, u.2.2.1, u.2.2.2.1, pf, u.2.2.2.2.2.1, u.2.2.2.2.2.2.1, u.2.2.2.2.2.2.2) t hR hI k (by omega)) gX3_shareAmong_X3_strengthOf rfl rfl rfl (by decide +kernel) rfl ⟨Nat.le_of_ble_eq_true rfl, Nat.le_of_ble_eq_true rfl⟩ 3 0 rfl rfl hP hD hS hl.1 rfl (Nat.le_of_ble_eq_true rfl) dX3_shareAmong_70 (fun r9 u9 H locs w5 hP hD hS => ?_)
            subst w5
            have hP : va_P g.1 vwCl (twW g a (u.1, u.2.1, u.2.2.1, u.2.2.2.1, pf, u.2.2.2.2.2.1, u.2.2.2.2.2.2.1, u.2.2.2.2.2.2.2)) H := hP
            have hD : va_D A (twW g a (u.1, u.2.1, u.2.2.1, u.2.2.2.1, pf, u.2.2.2.2.2.1, u.2.2.2.2.2.2.1, u.2.2.2.2.2.2.2)) := hD
            refine lv_goto (tgt := 93) hx hb dX3_shareAmong_73 (by decide) ?_
            refine sp_top (y := nI (sp_prt t k)) (congrArg nI (sp_prt_1 cr1)) ?_
            refine va_iast hx hb hK.1 hP hD hS 5 0 rfl rfl (vp_in_nI (by omega) (by omega)) dX3_shareAmong_93 (fun H locs hP hD hS => ?_)
            rw [sp_c8 (k := k) (by omega)] at hP hD
            have hP : va_P g.1 vwCl (twW g a (u.1, u.2.1, u.2.2.1, u.2.2.2.1, (upd pf k (nI (sp_prt t k))), u.2.2.2.2.2.1, u.2.2.2.2.2.2.1, u.2.2.2.2.2.2.2)) H := hP
            have hD : va_D A (twW g a (u.1, u.2.1, u.2.2.1, u.2.2.2.1, (upd pf k (nI (sp_prt t k))), u.2.2.2.2.2.1, u.2.2.2.2.2.2.1, u.2.2.2.2.2.2.2)) := hD
            refine lv_lload hx hb dX3_shareAmong_94 (lv_at hl 7 rfl) ?_
            refine lv_aload_n hx hb dX3_shareAmong_96 rfl (lv_at hl 1 rfl) ?_
            refine va_get (D := g.1) (ci := 3) (v := .ref a.2.2.2.2.2) (C := RX3) (T := TX3) (N := 8) hx hb hts inX3 hown hK.1 hP 0 rfl rfl 4 (by decide) (hts _ (List.mem_of_getElem? (i := 2) rfl)) (fun _ h9 => h9) rfl dX3_shareAmong_97 ?_
            refine lv_iload hx hb dX3_shareAmong_100 (lv_at hl 8 rfl) ?_
            refine va_iald hx hb hK.1 hP 5 0 rfl rfl (vp_in_nI (by omega) (by omega)) dX3_shareAmong_102 ?_
            refine sp_top (y := (upd pf k (nI (sp_prt t k))) k) (congrArg (upd pf k (nI (sp_prt t k))) (sp_c8 (k := k) (by omega))) ?_
            refine sp_top (y := nI (sp_prt t k)) (sp_upd_s) ?_
            refine lv_i2l (v := lN (sp_prt t k)) hx hb dX3_shareAmong_103 (nI_l (by omega)) ?_
            refine lv_ladd hx hb dX3_shareAmong_104 ?_
            refine sp_top_l (y := lN (al + sp_prt t k)) (lN_add _ _) ?_
            refine lv_lstore (lv' := [(6, .long (lN (al + sp_prt t k))), (9, .int (nI (sp_age t k))), (0, .ref a.1), (1, .int (nI i)), (2, .int q), (3, .int (nI (sp_low t i))), (4, .int (nI (sp_hi t i))), (5, .int (nI (tr t))), (8, .int (nI k))]) hx hb dX3_shareAmong_105 hl (by decide) rfl (fun ls hl => ?_)
            refine lv_iinc (v := nI (k + 1)) (lv' := [(8, .int (nI (k + 1))), (6, .long (lN (al + sp_prt t k))), (9, .int (nI (sp_age t k))), (0, .ref a.1), (1, .int (nI i)), (2, .int q), (3, .int (nI (sp_low t i))), (4, .int (nI (sp_hi t i))), (5, .int (nI (tr t)))]) hx hb dX3_shareAmong_107 hl (k := 8) rfl (nI_1 k) (by decide) rfl (fun ls hl => ?_)
            refine lv_goto (tgt := 40) hx hb dX3_shareAmong_110 (by decide) ?_
            exact ih40 (k + 1) (al + sp_prt t k) (upd pf k (nI (sp_prt t k))) _ _ _ (by omega) (by omega) (sp_upd_ext (F := fun j => nI (sp_prt t j)) hpf rfl) (by rw [← hal, lp_step (sp_als (sp_prt t)) (show k < sp_hi t i + 1 by omega)]; rfl) (by omega) (by omega) hP hD hS (lv_sub hl [3, 4, 5, 6, 7, 8, 1, 0] rfl)
    exact hloop40 (_ + 1) (sp_low t i) 0 u.2.2.2.2.1 _ _ _ (Nat.le_refl _) (by omega) (fun j h1 h2 => absurd h1 (by omega)) (rfl) (Nat.zero_le _) (Nat.lt_succ_self _) hP hD hS (lv_sub hl [4, 5, 6, 7, 3, 2, 1, 0] rfl)
  refine lv_if_ne (tgt := 19) hx hb dX3_shareAmong_7 (by decide) (fun c1 => ?_) (fun c1 => ?_)
  · have c1 := mt (sp_z_eq (by omega)).mpr c1
    exact hj19  _ _ _ (by first | exact sp_gr_f1 c1 | exact sp_gr_f2 (hb0.symm.trans c2)) hP hD hS (lv_sub hl [1, 2, 3, 0] rfl)
  · have c1 := (sp_z_eq (by omega)).mp c1
    refine lv_aload_n hx hb dX3_shareAmong_10 rfl (lv_at hl 1 rfl) ?_
    refine lv_iconst (v := nI 0) hx hb dX3_shareAmong_11 (by decide) ?_
    refine sp_vi0 (n := 1) SF hK hA (c_X3_isPropped l g a u t hR hI 0 (by omega)) gX3_shareAmong_X3_isPropped rfl rfl rfl (by decide +kernel) rfl ⟨Nat.le_of_ble_eq_true rfl, Nat.le_of_ble_eq_true rfl⟩ 3 0 rfl rfl hP hD hS hl.1 rfl (Nat.le_of_ble_eq_true rfl) dX3_shareAmong_12 (fun r9 u9 H locs hb0 hP hD hS => ?_)
    obtain ⟨bb, rfl, hb0⟩ := hb0
    have hP : va_P g.1 vwCl (twW g a u) H := hP
    have hD : va_D A (twW g a u) := hD
    refine lv_if_eq (tgt := 19) hx hb dX3_shareAmong_15 (by decide) (fun c2 => ?_) (fun c2 => ?_)
    · have c2 := sp_b0.mp c2
      exact hj19  _ _ _ (by first | exact sp_gr_f1 c1 | exact sp_gr_f2 (hb0.symm.trans c2)) hP hD hS (lv_sub hl [1, 2, 3, 0] rfl)
    · have c2 := sp_b0n.mp c2
      exact hend _ _ _ _ u dX3_shareAmong_18 (by unfold sp_shr; rw [sp_gr_t c1 (hb0.symm.trans c2)]; exact hR) hP hD hS

