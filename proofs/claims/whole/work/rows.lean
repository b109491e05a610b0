section
-- ===== PART A: goes FIRST, ahead of the names: the tables' words, and 'selects' of the private methods out of them =====
/-- a private method of a class that the tables say can be made, by its rows of tables_1 -/
def lw_okq (q : MethodName × Nat) : Prop := (q.1.cls ≠ "java/lang/invoke/MethodHandle" ∧ q.1.cls ≠ "java/lang/invoke/VarHandle") ∧ Cond.instantiable q.1.cls q.2 ∈ tables_1 ∧ Cond.privateMethod q.1 ∈ tables_1 ∧ Cond.instanceMethod q.1 ∈ tables_1
theorem lw_p0 : lw_okq (⟨"StrikePlan", "maySet", "()I"⟩, 6) := ⟨⟨by decide +kernel, by decide +kernel⟩, List.mem_of_getElem? (i := 11) (by decide +kernel), List.mem_of_getElem? (i := 162) (by decide +kernel), List.mem_of_getElem? (i := 163) (by decide +kernel)⟩
theorem lw_p1 : lw_okq (⟨"StrikePlan", "tryStrike", "(II)Z"⟩, 6) := ⟨⟨by decide +kernel, by decide +kernel⟩, List.mem_of_getElem? (i := 11) (by decide +kernel), List.mem_of_getElem? (i := 166) (by decide +kernel), List.mem_of_getElem? (i := 167) (by decide +kernel)⟩
theorem lw_p2 : lw_okq (⟨"StrikePlan$Tower", "shareAmong", "(II)V"⟩, 8) := ⟨⟨by decide +kernel, by decide +kernel⟩, List.mem_of_getElem? (i := 19) (by decide +kernel), List.mem_of_getElem? (i := 196) (by decide +kernel), List.mem_of_getElem? (i := 197) (by decide +kernel)⟩
theorem lw_p3 : lw_okq (⟨"StrikePlan$Tower", "spreadByOnes", "(III)V"⟩, 8) := ⟨⟨by decide +kernel, by decide +kernel⟩, List.mem_of_getElem? (i := 19) (by decide +kernel), List.mem_of_getElem? (i := 213) (by decide +kernel), List.mem_of_getElem? (i := 214) (by decide +kernel)⟩
theorem lw_p4 : lw_okq (⟨"StrikePlan", "earliestFor", "(I)I"⟩, 6) := ⟨⟨by decide +kernel, by decide +kernel⟩, List.mem_of_getElem? (i := 11) (by decide +kernel), List.mem_of_getElem? (i := 237) (by decide +kernel), List.mem_of_getElem? (i := 238) (by decide +kernel)⟩
theorem lw_p5 : lw_okq (⟨"StrikePlan", "harmOf", "(I)I"⟩, 6) := ⟨⟨by decide +kernel, by decide +kernel⟩, List.mem_of_getElem? (i := 11) (by decide +kernel), List.mem_of_getElem? (i := 241) (by decide +kernel), List.mem_of_getElem? (i := 242) (by decide +kernel)⟩
theorem lw_p6 : lw_okq (⟨"StrikePlan", "cycleHolds", "(II)Z"⟩, 6) := ⟨⟨by decide +kernel, by decide +kernel⟩, List.mem_of_getElem? (i := 11) (by decide +kernel), List.mem_of_getElem? (i := 262) (by decide +kernel), List.mem_of_getElem? (i := 263) (by decide +kernel)⟩
theorem lw_p7 : lw_okq (⟨"StrikePlan", "tryPour", "()Z"⟩, 6) := ⟨⟨by decide +kernel, by decide +kernel⟩, List.mem_of_getElem? (i := 11) (by decide +kernel), List.mem_of_getElem? (i := 303) (by decide +kernel), List.mem_of_getElem? (i := 304) (by decide +kernel)⟩
theorem lw_p8 : lw_okq (⟨"StrikePlan", "nextDraw", "()I"⟩, 6) := ⟨⟨by decide +kernel, by decide +kernel⟩, List.mem_of_getElem? (i := 11) (by decide +kernel), List.mem_of_getElem? (i := 337) (by decide +kernel), List.mem_of_getElem? (i := 338) (by decide +kernel)⟩
theorem lw_p9 : lw_okq (⟨"StrikePlanModel", "propped", "()I"⟩, 11) := ⟨⟨by decide +kernel, by decide +kernel⟩, List.mem_of_getElem? (i := 385) (by decide +kernel), List.mem_of_getElem? (i := 431) (by decide +kernel), List.mem_of_getElem? (i := 432) (by decide +kernel)⟩
theorem lw_p10 : lw_okq (⟨"StrikePlanModel", "isPropped", "(I)Z"⟩, 11) := ⟨⟨by decide +kernel, by decide +kernel⟩, List.mem_of_getElem? (i := 385) (by decide +kernel), List.mem_of_getElem? (i := 435) (by decide +kernel), List.mem_of_getElem? (i := 436) (by decide +kernel)⟩
theorem lw_p11 : lw_okq (⟨"StrikePlanModel", "of", "(II)I"⟩, 11) := ⟨⟨by decide +kernel, by decide +kernel⟩, List.mem_of_getElem? (i := 385) (by decide +kernel), List.mem_of_getElem? (i := 439) (by decide +kernel), List.mem_of_getElem? (i := 440) (by decide +kernel)⟩
theorem lw_p12 : lw_okq (⟨"StrikePlanModel", "weak", "()I"⟩, 11) := ⟨⟨by decide +kernel, by decide +kernel⟩, List.mem_of_getElem? (i := 385) (by decide +kernel), List.mem_of_getElem? (i := 443) (by decide +kernel), List.mem_of_getElem? (i := 444) (by decide +kernel)⟩
theorem lw_p13 : lw_okq (⟨"StrikePlanModel", "strength", "(I)I"⟩, 11) := ⟨⟨by decide +kernel, by decide +kernel⟩, List.mem_of_getElem? (i := 385) (by decide +kernel), List.mem_of_getElem? (i := 447) (by decide +kernel), List.mem_of_getElem? (i := 448) (by decide +kernel)⟩
theorem lw_p14 : lw_okq (⟨"StrikePlanModel", "age", "(I)I"⟩, 11) := ⟨⟨by decide +kernel, by decide +kernel⟩, List.mem_of_getElem? (i := 385) (by decide +kernel), List.mem_of_getElem? (i := 451) (by decide +kernel), List.mem_of_getElem? (i := 452) (by decide +kernel)⟩
theorem lw_p15 : lw_okq (⟨"StrikePlanModel", "may", "()I"⟩, 11) := ⟨⟨by decide +kernel, by decide +kernel⟩, List.mem_of_getElem? (i := 385) (by decide +kernel), List.mem_of_getElem? (i := 458) (by decide +kernel), List.mem_of_getElem? (i := 459) (by decide +kernel)⟩
def lw_privs_1 : List (MethodName × Nat) := [(⟨"StrikePlan", "maySet", "()I"⟩, 6), (⟨"StrikePlan", "tryStrike", "(II)Z"⟩, 6), (⟨"StrikePlan$Tower", "shareAmong", "(II)V"⟩, 8), (⟨"StrikePlan$Tower", "spreadByOnes", "(III)V"⟩, 8), (⟨"StrikePlan", "earliestFor", "(I)I"⟩, 6), (⟨"StrikePlan", "harmOf", "(I)I"⟩, 6), (⟨"StrikePlan", "cycleHolds", "(II)Z"⟩, 6), (⟨"StrikePlan", "tryPour", "()Z"⟩, 6), (⟨"StrikePlan", "nextDraw", "()I"⟩, 6), (⟨"StrikePlanModel", "propped", "()I"⟩, 11), (⟨"StrikePlanModel", "isPropped", "(I)Z"⟩, 11), (⟨"StrikePlanModel", "of", "(II)I"⟩, 11), (⟨"StrikePlanModel", "weak", "()I"⟩, 11), (⟨"StrikePlanModel", "strength", "(I)I"⟩, 11), (⟨"StrikePlanModel", "age", "(I)I"⟩, 11), (⟨"StrikePlanModel", "may", "()I"⟩, 11)]
theorem lw_r1 : ∀ q ∈ lw_privs_1, lw_okq q := List.forall_mem_cons.mpr ⟨lw_p0, List.forall_mem_cons.mpr ⟨lw_p1, List.forall_mem_cons.mpr ⟨lw_p2, List.forall_mem_cons.mpr ⟨lw_p3, List.forall_mem_cons.mpr ⟨lw_p4, List.forall_mem_cons.mpr ⟨lw_p5, List.forall_mem_cons.mpr ⟨lw_p6, List.forall_mem_cons.mpr ⟨lw_p7, List.forall_mem_cons.mpr ⟨lw_p8, List.forall_mem_cons.mpr ⟨lw_p9, List.forall_mem_cons.mpr ⟨lw_p10, List.forall_mem_cons.mpr ⟨lw_p11, List.forall_mem_cons.mpr ⟨lw_p12, List.forall_mem_cons.mpr ⟨lw_p13, List.forall_mem_cons.mpr ⟨lw_p14, List.forall_mem_cons.mpr ⟨lw_p15, fun _ h => absurd h List.not_mem_nil⟩⟩⟩⟩⟩⟩⟩⟩⟩⟩⟩⟩⟩⟩⟩⟩
theorem lw_p16 : lw_okq (⟨"StrikePlanModel", "mayStrike", "(I)Z"⟩, 11) := ⟨⟨by decide +kernel, by decide +kernel⟩, List.mem_of_getElem? (i := 385) (by decide +kernel), List.mem_of_getElem? (i := 462) (by decide +kernel), List.mem_of_getElem? (i := 463) (by decide +kernel)⟩
theorem lw_p17 : lw_okq (⟨"StrikePlanModel", "isFloor", "(I)Z"⟩, 11) := ⟨⟨by decide +kernel, by decide +kernel⟩, List.mem_of_getElem? (i := 385) (by decide +kernel), List.mem_of_getElem? (i := 466) (by decide +kernel), List.mem_of_getElem? (i := 467) (by decide +kernel)⟩
theorem lw_p18 : lw_okq (⟨"StrikePlanModel", "lays", "()V"⟩, 11) := ⟨⟨by decide +kernel, by decide +kernel⟩, List.mem_of_getElem? (i := 385) (by decide +kernel), List.mem_of_getElem? (i := 473) (by decide +kernel), List.mem_of_getElem? (i := 474) (by decide +kernel)⟩
theorem lw_p19 : lw_okq (⟨"StrikePlanModel", "strikes", "(I)V"⟩, 11) := ⟨⟨by decide +kernel, by decide +kernel⟩, List.mem_of_getElem? (i := 385) (by decide +kernel), List.mem_of_getElem? (i := 477) (by decide +kernel), List.mem_of_getElem? (i := 478) (by decide +kernel)⟩
theorem lw_p20 : lw_okq (⟨"StrikePlanModel", "force", "(I)I"⟩, 11) := ⟨⟨by decide +kernel, by decide +kernel⟩, List.mem_of_getElem? (i := 385) (by decide +kernel), List.mem_of_getElem? (i := 481) (by decide +kernel), List.mem_of_getElem? (i := 482) (by decide +kernel)⟩
theorem lw_p21 : lw_okq (⟨"StrikePlanModel", "highest", "(I)I"⟩, 11) := ⟨⟨by decide +kernel, by decide +kernel⟩, List.mem_of_getElem? (i := 385) (by decide +kernel), List.mem_of_getElem? (i := 485) (by decide +kernel), List.mem_of_getElem? (i := 486) (by decide +kernel)⟩
theorem lw_p22 : lw_okq (⟨"StrikePlanModel", "put", "(III)V"⟩, 11) := ⟨⟨by decide +kernel, by decide +kernel⟩, List.mem_of_getElem? (i := 385) (by decide +kernel), List.mem_of_getElem? (i := 489) (by decide +kernel), List.mem_of_getElem? (i := 490) (by decide +kernel)⟩
theorem lw_p23 : lw_okq (⟨"StrikePlanModel", "shares", "(II)V"⟩, 11) := ⟨⟨by decide +kernel, by decide +kernel⟩, List.mem_of_getElem? (i := 385) (by decide +kernel), List.mem_of_getElem? (i := 493) (by decide +kernel), List.mem_of_getElem? (i := 494) (by decide +kernel)⟩
theorem lw_p24 : lw_okq (⟨"StrikePlanModel", "isGrounded", "(I)Z"⟩, 11) := ⟨⟨by decide +kernel, by decide +kernel⟩, List.mem_of_getElem? (i := 385) (by decide +kernel), List.mem_of_getElem? (i := 497) (by decide +kernel), List.mem_of_getElem? (i := 498) (by decide +kernel)⟩
theorem lw_p25 : lw_okq (⟨"StrikePlanModel", "lowest", "(I)I"⟩, 11) := ⟨⟨by decide +kernel, by decide +kernel⟩, List.mem_of_getElem? (i := 385) (by decide +kernel), List.mem_of_getElem? (i := 501) (by decide +kernel), List.mem_of_getElem? (i := 502) (by decide +kernel)⟩
theorem lw_p26 : lw_okq (⟨"StrikePlanModel", "takesBack", "()V"⟩, 11) := ⟨⟨by decide +kernel, by decide +kernel⟩, List.mem_of_getElem? (i := 385) (by decide +kernel), List.mem_of_getElem? (i := 505) (by decide +kernel), List.mem_of_getElem? (i := 506) (by decide +kernel)⟩
theorem lw_p27 : lw_okq (⟨"StrikePlanModel", "wrong", "()I"⟩, 11) := ⟨⟨by decide +kernel, by decide +kernel⟩, List.mem_of_getElem? (i := 385) (by decide +kernel), List.mem_of_getElem? (i := 509) (by decide +kernel), List.mem_of_getElem? (i := 510) (by decide +kernel)⟩
theorem lw_p28 : lw_okq (⟨"StrikePlanModel", "earliest", "(I)I"⟩, 11) := ⟨⟨by decide +kernel, by decide +kernel⟩, List.mem_of_getElem? (i := 385) (by decide +kernel), List.mem_of_getElem? (i := 519) (by decide +kernel), List.mem_of_getElem? (i := 520) (by decide +kernel)⟩
theorem lw_p29 : lw_okq (⟨"StrikePlanModel", "harm", "(I)I"⟩, 11) := ⟨⟨by decide +kernel, by decide +kernel⟩, List.mem_of_getElem? (i := 385) (by decide +kernel), List.mem_of_getElem? (i := 523) (by decide +kernel), List.mem_of_getElem? (i := 524) (by decide +kernel)⟩
theorem lw_p30 : lw_okq (⟨"StrikePlanModel", "holds", "(II)Z"⟩, 11) := ⟨⟨by decide +kernel, by decide +kernel⟩, List.mem_of_getElem? (i := 385) (by decide +kernel), List.mem_of_getElem? (i := 539) (by decide +kernel), List.mem_of_getElem? (i := 540) (by decide +kernel)⟩
theorem lw_p31 : lw_okq (⟨"StrikePlanModel", "pours", "()V"⟩, 11) := ⟨⟨by decide +kernel, by decide +kernel⟩, List.mem_of_getElem? (i := 385) (by decide +kernel), List.mem_of_getElem? (i := 543) (by decide +kernel), List.mem_of_getElem? (i := 544) (by decide +kernel)⟩
def lw_privs_2 : List (MethodName × Nat) := [(⟨"StrikePlanModel", "mayStrike", "(I)Z"⟩, 11), (⟨"StrikePlanModel", "isFloor", "(I)Z"⟩, 11), (⟨"StrikePlanModel", "lays", "()V"⟩, 11), (⟨"StrikePlanModel", "strikes", "(I)V"⟩, 11), (⟨"StrikePlanModel", "force", "(I)I"⟩, 11), (⟨"StrikePlanModel", "highest", "(I)I"⟩, 11), (⟨"StrikePlanModel", "put", "(III)V"⟩, 11), (⟨"StrikePlanModel", "shares", "(II)V"⟩, 11), (⟨"StrikePlanModel", "isGrounded", "(I)Z"⟩, 11), (⟨"StrikePlanModel", "lowest", "(I)I"⟩, 11), (⟨"StrikePlanModel", "takesBack", "()V"⟩, 11), (⟨"StrikePlanModel", "wrong", "()I"⟩, 11), (⟨"StrikePlanModel", "earliest", "(I)I"⟩, 11), (⟨"StrikePlanModel", "harm", "(I)I"⟩, 11), (⟨"StrikePlanModel", "holds", "(II)Z"⟩, 11), (⟨"StrikePlanModel", "pours", "()V"⟩, 11)]
theorem lw_r2 : ∀ q ∈ lw_privs_2, lw_okq q := List.forall_mem_cons.mpr ⟨lw_p16, List.forall_mem_cons.mpr ⟨lw_p17, List.forall_mem_cons.mpr ⟨lw_p18, List.forall_mem_cons.mpr ⟨lw_p19, List.forall_mem_cons.mpr ⟨lw_p20, List.forall_mem_cons.mpr ⟨lw_p21, List.forall_mem_cons.mpr ⟨lw_p22, List.forall_mem_cons.mpr ⟨lw_p23, List.forall_mem_cons.mpr ⟨lw_p24, List.forall_mem_cons.mpr ⟨lw_p25, List.forall_mem_cons.mpr ⟨lw_p26, List.forall_mem_cons.mpr ⟨lw_p27, List.forall_mem_cons.mpr ⟨lw_p28, List.forall_mem_cons.mpr ⟨lw_p29, List.forall_mem_cons.mpr ⟨lw_p30, List.forall_mem_cons.mpr ⟨lw_p31, fun _ h => absurd h List.not_mem_nil⟩⟩⟩⟩⟩⟩⟩⟩⟩⟩⟩⟩⟩⟩⟩⟩
theorem lw_p32 : lw_okq (⟨"StrikePlanModel", "notes", "()V"⟩, 11) := ⟨⟨by decide +kernel, by decide +kernel⟩, List.mem_of_getElem? (i := 385) (by decide +kernel), List.mem_of_getElem? (i := 551) (by decide +kernel), List.mem_of_getElem? (i := 552) (by decide +kernel)⟩
theorem lw_p33 : lw_okq (⟨"StrikePlanModel", "mayPour", "()Z"⟩, 11) := ⟨⟨by decide +kernel, by decide +kernel⟩, List.mem_of_getElem? (i := 385) (by decide +kernel), List.mem_of_getElem? (i := 560) (by decide +kernel), List.mem_of_getElem? (i := 561) (by decide +kernel)⟩
theorem lw_p34 : lw_okq (⟨"StrikePlanModel", "drawOf", "(I)I"⟩, 11) := ⟨⟨by decide +kernel, by decide +kernel⟩, List.mem_of_getElem? (i := 385) (by decide +kernel), List.mem_of_getElem? (i := 589) (by decide +kernel), List.mem_of_getElem? (i := 590) (by decide +kernel)⟩
def lw_privs_3 : List (MethodName × Nat) := [(⟨"StrikePlanModel", "notes", "()V"⟩, 11), (⟨"StrikePlanModel", "mayPour", "()Z"⟩, 11), (⟨"StrikePlanModel", "drawOf", "(I)I"⟩, 11)]
theorem lw_r3 : ∀ q ∈ lw_privs_3, lw_okq q := List.forall_mem_cons.mpr ⟨lw_p32, List.forall_mem_cons.mpr ⟨lw_p33, List.forall_mem_cons.mpr ⟨lw_p34, fun _ h => absurd h List.not_mem_nil⟩⟩⟩
def lw_privs : List (MethodName × Nat) := lw_privs_1 ++ (lw_privs_2 ++ (lw_privs_3))
def lw_tbl : List Cond := k2_sels lw_privs ++ tables_1
theorem lw_privs_ok : ∀ q ∈ lw_privs, lw_okq q := by
  show ∀ q ∈ lw_privs_1 ++ (lw_privs_2 ++ (lw_privs_3)), lw_okq q
  exact List.forall_mem_append.mpr ⟨lw_r1, List.forall_mem_append.mpr ⟨lw_r2, lw_r3⟩⟩
end
section
/-! ===== BEGIN words of one list among another's, by their places ===== -/
theorem goodIn_r {big : List Cond} (ws : List Cond) (ps : List Nat) (hp : ws = ps.filterMap (fun i => big[i]?)) (h : ws.all goodWord = true) : GoodIn big ws := by
  intro w hw
  have h1 := List.all_eq_true.mp h w hw
  rw [hp] at hw
  obtain ⟨i, -, hi⟩ := List.mem_filterMap.mp hw
  have hm : w ∈ big := by first | exact List.mem_of_getElem? hi | exact List.getElem?_mem hi
  exact ⟨hm, good_of_word h1⟩
theorem goodIn_app {big a b : List Cond} (ha : GoodIn big a) (hb : GoodIn big b) : GoodIn big (a ++ b) := fun w h => (List.mem_append.mp h).elim (ha w) (hb w)
theorem goodIn_ca {big a b : List Cond} {c : Cond} (ha : GoodIn big (c :: a)) (hb : GoodIn big b) : GoodIn big (c :: (a ++ b)) := fun w h => (List.mem_cons.mp h).elim (fun e => ha w (List.mem_cons.mpr (Or.inl e))) (fun h => (List.mem_append.mp h).elim (fun h => ha w (List.mem_cons.mpr (Or.inr h))) (hb w))
theorem goodIn_sub {big ws : List Cond} (hm : ∀ w ∈ ws, w ∈ big) (h : ws.all goodWord = true) : GoodIn big ws := fun w hw => ⟨hm w hw, good_of_word (List.all_eq_true.mp h w hw)⟩
/-! ===== END ===== -/

/-! ===== BEGIN printed: names, fields, word lists, decode rows ===== -/
def RX0 : String := "StrikePlan$Book"
def TX0 : u_T := fun k => match k with
  | 0 => ("StrikePlan$Book", "floors", "[I", true)
  | 1 => ("StrikePlan$Book", "loads", "[I", true)
  | _ => ("StrikePlan$Book", "size", "I", false)
def tyX0 : Nat → FieldType := fun k => match k with
  | 0 => .array .int
  | 1 => .array .int
  | _ => .int
abbrev wsX00 : List Cond := u_ws RX0 TX0 3
theorem nmX0 : ∀ a, a < 3 → ∀ b, b < 3 → a ≠ b → (TX0 a).2.1 ≠ (TX0 b).2.1 := by decide +kernel
theorem tyX0_ok : ∀ k, k < 3 → parseFieldDescriptor (TX0 k).2.2.1 = some (tyX0 k) := by decide +kernel
abbrev cX0_init : ByteArray := prog_2_method_1_code
def yX0_init : MethodName := ⟨RX0, "<init>", "()V"⟩
abbrev cX0_add : ByteArray := prog_2_method_2_code
def yX0_add : MethodName := ⟨RX0, "add", "(II)V"⟩
abbrev cX0_firstWrong : ByteArray := prog_2_method_3_code
def yX0_firstWrong : MethodName := ⟨RX0, "firstWrong", "(LStrikePlan$Tower;)I"⟩
def RX1 : String := "StrikePlan$Image"
def TX1 : u_T := fun k => match k with
  | 0 => ("StrikePlan$Image", "tower", "LStrikePlan$Tower;", true)
  | 1 => ("StrikePlan$Image", "drawSeed", "I", false)
  | _ => ("StrikePlan$Image", "taken", "Z", false)
def tyX1 : Nat → FieldType := fun k => match k with
  | 0 => .object "StrikePlan$Tower"
  | 1 => .int
  | _ => .boolean
abbrev wsX10 : List Cond := u_ws RX1 TX1 3
theorem nmX1 : ∀ a, a < 3 → ∀ b, b < 3 → a ≠ b → (TX1 a).2.1 ≠ (TX1 b).2.1 := by decide +kernel
theorem tyX1_ok : ∀ k, k < 3 → parseFieldDescriptor (TX1 k).2.2.1 = some (tyX1 k) := by decide +kernel
abbrev cX1_init : ByteArray := prog_3_method_1_code
def yX1_init : MethodName := ⟨RX1, "<init>", "()V"⟩
abbrev cX1_take : ByteArray := prog_3_method_2_code
def yX1_take : MethodName := ⟨RX1, "take", "(LStrikePlan$Tower;I)V"⟩
def RX2 : String := "StrikePlan$Past"
def TX2 : u_T := fun k => match k with
  | 0 => ("StrikePlan$Past", "ring", "[LStrikePlan$Tower;", true)
  | 1 => ("StrikePlan$Past", "next", "I", false)
  | _ => ("StrikePlan$Past", "size", "I", false)
def tyX2 : Nat → FieldType := fun k => match k with
  | 0 => .array (.object "StrikePlan$Tower")
  | 1 => .int
  | _ => .int
abbrev wsX20 : List Cond := u_ws RX2 TX2 3
theorem nmX2 : ∀ a, a < 3 → ∀ b, b < 3 → a ≠ b → (TX2 a).2.1 ≠ (TX2 b).2.1 := by decide +kernel
theorem tyX2_ok : ∀ k, k < 3 → parseFieldDescriptor (TX2 k).2.2.1 = some (tyX2 k) := by decide +kernel
abbrev cX2_init : ByteArray := prog_4_method_1_code
def yX2_init : MethodName := ⟨RX2, "<init>", "()V"⟩
abbrev cX2_note : ByteArray := prog_4_method_2_code
def yX2_note : MethodName := ⟨RX2, "note", "(LStrikePlan$Tower;)V"⟩
abbrev cX2_takeBack : ByteArray := prog_4_method_3_code
def yX2_takeBack : MethodName := ⟨RX2, "takeBack", "(ILStrikePlan$Tower;)V"⟩
abbrev cX2_forget : ByteArray := prog_4_method_4_code
def yX2_forget : MethodName := ⟨RX2, "forget", "()V"⟩
def RX3 : String := "StrikePlan$Tower"
def TX3 : u_T := fun k => match k with
  | 0 => ("StrikePlan$Tower", "bounds", "[I", true)
  | 1 => ("StrikePlan$Tower", "pouredOn", "[I", true)
  | 2 => ("StrikePlan$Tower", "slowness", "[I", true)
  | 3 => ("StrikePlan$Tower", "load", "[I", true)
  | 4 => ("StrikePlan$Tower", "part", "[I", true)
  | 5 => ("StrikePlan$Tower", "day", "I", false)
  | 6 => ("StrikePlan$Tower", "count", "I", false)
  | _ => ("StrikePlan$Tower", "props", "I", false)
def tyX3 : Nat → FieldType := fun k => match k with
  | 0 => .array .int
  | 1 => .array .int
  | 2 => .array .int
  | 3 => .array .int
  | 4 => .array .int
  | 5 => .int
  | 6 => .int
  | _ => .int
abbrev wsX30 : List Cond := u_ws RX3 TX3 8
theorem nmX3 : ∀ a, a < 8 → ∀ b, b < 8 → a ≠ b → (TX3 a).2.1 ≠ (TX3 b).2.1 := by decide +kernel
theorem tyX3_ok : ∀ k, k < 8 → parseFieldDescriptor (TX3 k).2.2.1 = some (tyX3 k) := by decide +kernel
abbrev cX3_init : ByteArray := prog_5_method_1_code
def yX3_init : MethodName := ⟨RX3, "<init>", "()V"⟩
abbrev cX3_copyFrom : ByteArray := prog_5_method_2_code
def yX3_copyFrom : MethodName := ⟨RX3, "copyFrom", "(LStrikePlan$Tower;)V"⟩
abbrev cX3_empty : ByteArray := prog_5_method_3_code
def yX3_empty : MethodName := ⟨RX3, "empty", "()V"⟩
abbrev cX3_has : ByteArray := prog_5_method_4_code
def yX3_has : MethodName := ⟨RX3, "has", "(I)Z"⟩
abbrev cX3_ageOf : ByteArray := prog_5_method_5_code
def yX3_ageOf : MethodName := ⟨RX3, "ageOf", "(I)I"⟩
abbrev cX3_strengthOf : ByteArray := prog_5_method_6_code
def yX3_strengthOf : MethodName := ⟨RX3, "strengthOf", "(I)I"⟩
abbrev cX3_isPropped : ByteArray := prog_5_method_7_code
def yX3_isPropped : MethodName := ⟨RX3, "isPropped", "(I)Z"⟩
abbrev cX3_lowestPropped : ByteArray := prog_5_method_8_code
def yX3_lowestPropped : MethodName := ⟨RX3, "lowestPropped", "()I"⟩
abbrev cX3_lowestOf : ByteArray := prog_5_method_9_code
def yX3_lowestOf : MethodName := ⟨RX3, "lowestOf", "(I)I"⟩
abbrev cX3_highestOf : ByteArray := prog_5_method_10_code
def yX3_highestOf : MethodName := ⟨RX3, "highestOf", "(I)I"⟩
abbrev cX3_isGrounded : ByteArray := prog_5_method_11_code
def yX3_isGrounded : MethodName := ⟨RX3, "isGrounded", "(I)Z"⟩
abbrev cX3_forceUnder : ByteArray := prog_5_method_12_code
def yX3_forceUnder : MethodName := ⟨RX3, "forceUnder", "(I)I"⟩
abbrev cX3_weakSet : ByteArray := prog_5_method_13_code
def yX3_weakSet : MethodName := ⟨RX3, "weakSet", "()I"⟩
abbrev cX3_isSafe : ByteArray := prog_5_method_14_code
def yX3_isSafe : MethodName := ⟨RX3, "isSafe", "()Z"⟩
abbrev cX3_greatestExcess : ByteArray := prog_5_method_15_code
def yX3_greatestExcess : MethodName := ⟨RX3, "greatestExcess", "()I"⟩
abbrev cX3_addFloor : ByteArray := prog_5_method_16_code
def yX3_addFloor : MethodName := ⟨RX3, "addFloor", "()V"⟩
abbrev cX3_putProps : ByteArray := prog_5_method_17_code
def yX3_putProps : MethodName := ⟨RX3, "putProps", "(I)V"⟩
abbrev cX3_takeProps : ByteArray := prog_5_method_18_code
def yX3_takeProps : MethodName := ⟨RX3, "takeProps", "(I)V"⟩
abbrev cX3_shareAmong : ByteArray := prog_5_method_19_code
def yX3_shareAmong : MethodName := ⟨RX3, "shareAmong", "(II)V"⟩
abbrev cX3_spreadByOnes : ByteArray := prog_5_method_20_code
def yX3_spreadByOnes : MethodName := ⟨RX3, "spreadByOnes", "(III)V"⟩
def RX4 : String := "StrikePlan"
def TX4 : u_T := fun k => match k with
  | 0 => ("StrikePlan", "now", "LStrikePlan$Tower;", true)
  | 1 => ("StrikePlan", "trial", "LStrikePlan$Tower;", true)
  | 2 => ("StrikePlan", "past", "LStrikePlan$Past;", true)
  | 3 => ("StrikePlan", "book", "LStrikePlan$Book;", true)
  | 4 => ("StrikePlan", "images", "[LStrikePlan$Image;", true)
  | _ => ("StrikePlan", "drawSeed", "I", false)
def tyX4 : Nat → FieldType := fun k => match k with
  | 0 => .object "StrikePlan$Tower"
  | 1 => .object "StrikePlan$Tower"
  | 2 => .object "StrikePlan$Past"
  | 3 => .object "StrikePlan$Book"
  | 4 => .array (.object "StrikePlan$Image")
  | _ => .int
abbrev wsX40 : List Cond := u_ws RX4 TX4 6
theorem nmX4 : ∀ a, a < 6 → ∀ b, b < 6 → a ≠ b → (TX4 a).2.1 ≠ (TX4 b).2.1 := by decide +kernel
theorem tyX4_ok : ∀ k, k < 6 → parseFieldDescriptor (TX4 k).2.2.1 = some (tyX4 k) := by decide +kernel
abbrev cX4_init : ByteArray := prog_1_method_1_code
def yX4_init : MethodName := ⟨RX4, "<init>", "()V"⟩
abbrev cX4_told : ByteArray := prog_1_method_2_code
def yX4_told : MethodName := ⟨RX4, "told", "(I)I"⟩
abbrev cX4_floor : ByteArray := prog_1_method_3_code
def yX4_floor : MethodName := ⟨RX4, "floor", "(II)I"⟩
abbrev cX4_hundredths : ByteArray := prog_1_method_4_code
def yX4_hundredths : MethodName := ⟨RX4, "hundredths", "(II)I"⟩
abbrev cX4_would : ByteArray := prog_1_method_5_code
def yX4_would : MethodName := ⟨RX4, "would", "(II)I"⟩
abbrev cX4_cycle : ByteArray := prog_1_method_6_code
def yX4_cycle : MethodName := ⟨RX4, "cycle", "(I)I"⟩
abbrev cX4_days : ByteArray := prog_1_method_7_code
def yX4_days : MethodName := ⟨RX4, "days", "(I)I"⟩
abbrev cX4_pour : ByteArray := prog_1_method_8_code
def yX4_pour : MethodName := ⟨RX4, "pour", "()I"⟩
abbrev cX4_strike : ByteArray := prog_1_method_9_code
def yX4_strike : MethodName := ⟨RX4, "strike", "(I)I"⟩
abbrev cX4_back : ByteArray := prog_1_method_10_code
def yX4_back : MethodName := ⟨RX4, "back", "(I)I"⟩
abbrev cX4_slow : ByteArray := prog_1_method_11_code
def yX4_slow : MethodName := ⟨RX4, "slow", "(II)I"⟩
abbrev cX4_bound : ByteArray := prog_1_method_12_code
def yX4_bound : MethodName := ⟨RX4, "bound", "(II)I"⟩
abbrev cX4_clear : ByteArray := prog_1_method_13_code
def yX4_clear : MethodName := ⟨RX4, "clear", "()I"⟩
abbrev cX4_drift : ByteArray := prog_1_method_14_code
def yX4_drift : MethodName := ⟨RX4, "drift", "(I)I"⟩
abbrev cX4_undo : ByteArray := prog_1_method_15_code
def yX4_undo : MethodName := ⟨RX4, "undo", "(I)I"⟩
abbrev cX4_write : ByteArray := prog_1_method_16_code
def yX4_write : MethodName := ⟨RX4, "write", "(II)I"⟩
abbrev cX4_tear : ByteArray := prog_1_method_17_code
def yX4_tear : MethodName := ⟨RX4, "tear", "()I"⟩
abbrev cX4_seed : ByteArray := prog_1_method_18_code
def yX4_seed : MethodName := ⟨RX4, "seed", "(I)I"⟩
abbrev cX4_keep : ByteArray := prog_1_method_19_code
def yX4_keep : MethodName := ⟨RX4, "keep", "(I)I"⟩
abbrev cX4_goBack : ByteArray := prog_1_method_20_code
def yX4_goBack : MethodName := ⟨RX4, "goBack", "(I)I"⟩
abbrev cX4_tryPour : ByteArray := prog_1_method_21_code
def yX4_tryPour : MethodName := ⟨RX4, "tryPour", "()Z"⟩
abbrev cX4_tryStrike : ByteArray := prog_1_method_22_code
def yX4_tryStrike : MethodName := ⟨RX4, "tryStrike", "(II)Z"⟩
abbrev cX4_maySet : ByteArray := prog_1_method_23_code
def yX4_maySet : MethodName := ⟨RX4, "maySet", "()I"⟩
abbrev cX4_earliestFor : ByteArray := prog_1_method_24_code
def yX4_earliestFor : MethodName := ⟨RX4, "earliestFor", "(I)I"⟩
abbrev cX4_harmOf : ByteArray := prog_1_method_25_code
def yX4_harmOf : MethodName := ⟨RX4, "harmOf", "(I)I"⟩
abbrev cX4_cycleHolds : ByteArray := prog_1_method_26_code
def yX4_cycleHolds : MethodName := ⟨RX4, "cycleHolds", "(II)Z"⟩
abbrev cX4_nextDraw : ByteArray := prog_1_method_27_code
def yX4_nextDraw : MethodName := ⟨RX4, "nextDraw", "()I"⟩
abbrev cX4_percentAt : ByteArray := prog_1_method_28_code
def yX4_percentAt : MethodName := ⟨RX4, "percentAt", "(II)I"⟩
def RX5 : String := "StrikePlanModel"
def TX5 : u_T := fun k => match k with
  | 0 => ("StrikePlanModel", "now", "[I", true)
  | 1 => ("StrikePlanModel", "aside", "[I", true)
  | 2 => ("StrikePlanModel", "past", "[I", true)
  | 3 => ("StrikePlanModel", "deeds", "I", false)
  | 4 => ("StrikePlanModel", "images", "[I", true)
  | 5 => ("StrikePlanModel", "seeds", "[J", true)
  | 6 => ("StrikePlanModel", "kept", "[Z", true)
  | 7 => ("StrikePlanModel", "seed", "J", false)
  | 8 => ("StrikePlanModel", "book", "[I", true)
  | 9 => ("StrikePlanModel", "entries", "I", false)
  | _ => ("StrikePlanModel", "parts", "[I", true)
def tyX5 : Nat → FieldType := fun k => match k with
  | 0 => .array .int
  | 1 => .array .int
  | 2 => .array .int
  | 3 => .int
  | 4 => .array .int
  | 5 => .array .long
  | 6 => .array .boolean
  | 7 => .long
  | 8 => .array .int
  | 9 => .int
  | _ => .array .int
abbrev wsX50 : List Cond := u_ws RX5 TX5 11
theorem nmX5 : ∀ a, a < 11 → ∀ b, b < 11 → a ≠ b → (TX5 a).2.1 ≠ (TX5 b).2.1 := by decide +kernel
theorem tyX5_ok : ∀ k, k < 11 → parseFieldDescriptor (TX5 k).2.2.1 = some (tyX5 k) := by decide +kernel
abbrev cX5_init : ByteArray := prog_7_method_1_code
def yX5_init : MethodName := ⟨RX5, "<init>", "()V"⟩
abbrev cX5_in : ByteArray := prog_7_method_3_code
def yX5_in : MethodName := ⟨RX5, "in", "(III)Z"⟩
abbrev cX5_isFloor : ByteArray := prog_7_method_4_code
def yX5_isFloor : MethodName := ⟨RX5, "isFloor", "(I)Z"⟩
abbrev cX5_of : ByteArray := prog_7_method_5_code
def yX5_of : MethodName := ⟨RX5, "of", "(II)I"⟩
abbrev cX5_put : ByteArray := prog_7_method_6_code
def yX5_put : MethodName := ⟨RX5, "put", "(III)V"⟩
abbrev cX5_notes : ByteArray := prog_7_method_7_code
def yX5_notes : MethodName := ⟨RX5, "notes", "()V"⟩
abbrev cX5_lays : ByteArray := prog_7_method_8_code
def yX5_lays : MethodName := ⟨RX5, "lays", "()V"⟩
abbrev cX5_takesBack : ByteArray := prog_7_method_9_code
def yX5_takesBack : MethodName := ⟨RX5, "takesBack", "()V"⟩
abbrev cX5_age : ByteArray := prog_7_method_10_code
def yX5_age : MethodName := ⟨RX5, "age", "(I)I"⟩
abbrev cX5_hundredthsBy : ByteArray := prog_7_method_11_code
def yX5_hundredthsBy : MethodName := ⟨RX5, "hundredthsBy", "(II)I"⟩
abbrev cX5_strength : ByteArray := prog_7_method_12_code
def yX5_strength : MethodName := ⟨RX5, "strength", "(I)I"⟩
abbrev cX5_isPropped : ByteArray := prog_7_method_13_code
def yX5_isPropped : MethodName := ⟨RX5, "isPropped", "(I)Z"⟩
abbrev cX5_lowest : ByteArray := prog_7_method_14_code
def yX5_lowest : MethodName := ⟨RX5, "lowest", "(I)I"⟩
abbrev cX5_highest : ByteArray := prog_7_method_15_code
def yX5_highest : MethodName := ⟨RX5, "highest", "(I)I"⟩
abbrev cX5_isGrounded : ByteArray := prog_7_method_16_code
def yX5_isGrounded : MethodName := ⟨RX5, "isGrounded", "(I)Z"⟩
abbrev cX5_force : ByteArray := prog_7_method_17_code
def yX5_force : MethodName := ⟨RX5, "force", "(I)I"⟩
abbrev cX5_shares : ByteArray := prog_7_method_18_code
def yX5_shares : MethodName := ⟨RX5, "shares", "(II)V"⟩
abbrev cX5_weak : ByteArray := prog_7_method_19_code
def yX5_weak : MethodName := ⟨RX5, "weak", "()I"⟩
abbrev cX5_pours : ByteArray := prog_7_method_20_code
def yX5_pours : MethodName := ⟨RX5, "pours", "()V"⟩
abbrev cX5_strikes : ByteArray := prog_7_method_21_code
def yX5_strikes : MethodName := ⟨RX5, "strikes", "(I)V"⟩
abbrev cX5_mayStrike : ByteArray := prog_7_method_22_code
def yX5_mayStrike : MethodName := ⟨RX5, "mayStrike", "(I)Z"⟩
abbrev cX5_mayPour : ByteArray := prog_7_method_23_code
def yX5_mayPour : MethodName := ⟨RX5, "mayPour", "()Z"⟩
abbrev cX5_earliest : ByteArray := prog_7_method_24_code
def yX5_earliest : MethodName := ⟨RX5, "earliest", "(I)I"⟩
abbrev cX5_harm : ByteArray := prog_7_method_25_code
def yX5_harm : MethodName := ⟨RX5, "harm", "(I)I"⟩
abbrev cX5_propped : ByteArray := prog_7_method_26_code
def yX5_propped : MethodName := ⟨RX5, "propped", "()I"⟩
abbrev cX5_may : ByteArray := prog_7_method_27_code
def yX5_may : MethodName := ⟨RX5, "may", "()I"⟩
abbrev cX5_wrong : ByteArray := prog_7_method_28_code
def yX5_wrong : MethodName := ⟨RX5, "wrong", "()I"⟩
abbrev cX5_told : ByteArray := prog_7_method_29_code
def yX5_told : MethodName := ⟨RX5, "told", "(I)I"⟩
abbrev cX5_floor : ByteArray := prog_7_method_30_code
def yX5_floor : MethodName := ⟨RX5, "floor", "(II)I"⟩
abbrev cX5_hundredths : ByteArray := prog_7_method_31_code
def yX5_hundredths : MethodName := ⟨RX5, "hundredths", "(II)I"⟩
abbrev cX5_would : ByteArray := prog_7_method_32_code
def yX5_would : MethodName := ⟨RX5, "would", "(II)I"⟩
abbrev cX5_holds : ByteArray := prog_7_method_33_code
def yX5_holds : MethodName := ⟨RX5, "holds", "(II)Z"⟩
abbrev cX5_cycle : ByteArray := prog_7_method_34_code
def yX5_cycle : MethodName := ⟨RX5, "cycle", "(I)I"⟩
abbrev cX5_days : ByteArray := prog_7_method_35_code
def yX5_days : MethodName := ⟨RX5, "days", "(I)I"⟩
abbrev cX5_pour : ByteArray := prog_7_method_36_code
def yX5_pour : MethodName := ⟨RX5, "pour", "()I"⟩
abbrev cX5_strike : ByteArray := prog_7_method_37_code
def yX5_strike : MethodName := ⟨RX5, "strike", "(I)I"⟩
abbrev cX5_back : ByteArray := prog_7_method_38_code
def yX5_back : MethodName := ⟨RX5, "back", "(I)I"⟩
abbrev cX5_slow : ByteArray := prog_7_method_39_code
def yX5_slow : MethodName := ⟨RX5, "slow", "(II)I"⟩
abbrev cX5_bound : ByteArray := prog_7_method_40_code
def yX5_bound : MethodName := ⟨RX5, "bound", "(II)I"⟩
abbrev cX5_clear : ByteArray := prog_7_method_41_code
def yX5_clear : MethodName := ⟨RX5, "clear", "()I"⟩
abbrev cX5_drawOf : ByteArray := prog_7_method_42_code
def yX5_drawOf : MethodName := ⟨RX5, "drawOf", "(I)I"⟩
abbrev cX5_drift : ByteArray := prog_7_method_43_code
def yX5_drift : MethodName := ⟨RX5, "drift", "(I)I"⟩
abbrev cX5_undo : ByteArray := prog_7_method_44_code
def yX5_undo : MethodName := ⟨RX5, "undo", "(I)I"⟩
abbrev cX5_write : ByteArray := prog_7_method_45_code
def yX5_write : MethodName := ⟨RX5, "write", "(II)I"⟩
abbrev cX5_tear : ByteArray := prog_7_method_46_code
def yX5_tear : MethodName := ⟨RX5, "tear", "()I"⟩
abbrev cX5_seed : ByteArray := prog_7_method_47_code
def yX5_seed : MethodName := ⟨RX5, "seed", "(I)I"⟩
abbrev cX5_keep : ByteArray := prog_7_method_48_code
def yX5_keep : MethodName := ⟨RX5, "keep", "(I)I"⟩
abbrev cX5_goBack : ByteArray := prog_7_method_49_code
def yX5_goBack : MethodName := ⟨RX5, "goBack", "(I)I"⟩
def RJ6 : String := "java/lang/Integer"
def TJ6 : u_T := fun k => match k with
  | _ => ("", "", "", false)
def tyJ6 : Nat → FieldType := fun k => match k with
  | _ => .int
abbrev wsJ60 : List Cond := u_ws RJ6 TJ6 0
theorem nmJ6 : ∀ a, a < 0 → ∀ b, b < 0 → a ≠ b → (TJ6 a).2.1 ≠ (TJ6 b).2.1 := by decide +kernel
theorem tyJ6_ok : ∀ k, k < 0 → parseFieldDescriptor (TJ6 k).2.2.1 = some (tyJ6 k) := by decide +kernel
abbrev cJ6_bitCount_0f7a4 : ByteArray := prog_8_method_49_code
def yJ6_bitCount_0f7a4 : MethodName := ⟨RJ6, "bitCount", "(I)I"⟩
def RJ9 : String := "java/lang/Math"
def TJ9 : u_T := fun k => match k with
  | _ => ("", "", "", false)
def tyJ9 : Nat → FieldType := fun k => match k with
  | _ => .int
abbrev wsJ90 : List Cond := u_ws RJ9 TJ9 0
theorem nmJ9 : ∀ a, a < 0 → ∀ b, b < 0 → a ≠ b → (TJ9 a).2.1 ≠ (TJ9 b).2.1 := by decide +kernel
theorem tyJ9_ok : ∀ k, k < 0 → parseFieldDescriptor (TJ9 k).2.2.1 = some (tyJ9 k) := by decide +kernel
abbrev cJ9_max_7cf53 : ByteArray := prog_9_method_65_code
def yJ9_max_7cf53 : MethodName := ⟨RJ9, "max", "(II)I"⟩
abbrev cJ9_min_7cf53 : ByteArray := prog_9_method_69_code
def yJ9_min_7cf53 : MethodName := ⟨RJ9, "min", "(II)I"⟩
def RJ7 : String := "java/util/Arrays"
def TJ7 : u_T := fun k => match k with
  | _ => ("", "", "", false)
def tyJ7 : Nat → FieldType := fun k => match k with
  | _ => .int
abbrev wsJ70 : List Cond := u_ws RJ7 TJ7 0
theorem nmJ7 : ∀ a, a < 0 → ∀ b, b < 0 → a ≠ b → (TJ7 a).2.1 ≠ (TJ7 b).2.1 := by decide +kernel
theorem tyJ7_ok : ∀ k, k < 0 → parseFieldDescriptor (TJ7 k).2.2.1 = some (tyJ7 k) := by decide +kernel
abbrev cJ7_fill_53178 : ByteArray := prog_10_method_103_code
def yJ7_fill_53178 : MethodName := ⟨RJ7, "fill", "([II)V"⟩
def RL : String := "StrikePlanLaw"
abbrev cL_law : ByteArray := code
def yL_law : MethodName := ⟨RL, "law", "([I)Z"⟩
def wsX0_init : List Cond := .code yX0_init cX0_init 1 none :: ([.methodLink RX0 3 objectInit, .instanceMethod objectInit, .code objectInit ⟨#[0xb1]⟩ 1 none, .arrayClass .int, .fieldLink RX0 9 "StrikePlan$Book" "floors" "[I", .fieldLink RX0 15 "StrikePlan$Book" "loads" "[I", .fieldLink RX0 18 "StrikePlan$Book" "size" "I"] ++ wsX00)
def wsX0_add : List Cond := .code yX0_add cX0_add 3 none :: ([.fieldLink RX0 18 "StrikePlan$Book" "size" "I", .fieldLink RX0 9 "StrikePlan$Book" "floors" "[I", .fieldLink RX0 15 "StrikePlan$Book" "loads" "[I"] ++ wsX00)
def wsX3_has : List Cond := .code yX3_has cX3_has 2 (some .boolean) :: ([.fieldLink RX3 31 "StrikePlan$Tower" "count" "I"] ++ wsX30)
def wsX0_firstWrong : List Cond := .code yX0_firstWrong cX0_firstWrong 3 (some .int) :: ([.fieldLink RX0 18 "StrikePlan$Book" "size" "I", .fieldLink RX0 9 "StrikePlan$Book" "floors" "[I", .fieldLink RX0 28 "StrikePlan$Tower" "load" "[I", .fieldLink RX0 15 "StrikePlan$Book" "loads" "[I", .methodLink RX0 22 yX3_has, .instanceMethod yX3_has, .selects RX3 yX3_has yX3_has, .initialized RX3, .code yX3_has cX3_has 2 (some .boolean), .fieldLink RX3 31 "StrikePlan$Tower" "count" "I"] ++ wsX00 ++ wsX30)
def wsX3_init : List Cond := .code yX3_init cX3_init 1 none :: ([.methodLink RX3 3 objectInit, .instanceMethod objectInit, .code objectInit ⟨#[0xb1]⟩ 1 none, .arrayClass .int, .fieldLink RX3 9 "StrikePlan$Tower" "bounds" "[I", .fieldLink RX3 15 "StrikePlan$Tower" "pouredOn" "[I", .fieldLink RX3 18 "StrikePlan$Tower" "slowness" "[I", .fieldLink RX3 21 "StrikePlan$Tower" "load" "[I", .fieldLink RX3 24 "StrikePlan$Tower" "part" "[I", .fieldLink RX3 27 "StrikePlan$Tower" "day" "I", .fieldLink RX3 31 "StrikePlan$Tower" "count" "I", .fieldLink RX3 34 "StrikePlan$Tower" "props" "I"] ++ wsX30)
def wsX1_init : List Cond := .code yX1_init cX1_init 1 none :: ([.methodLink RX1 1 objectInit, .instanceMethod objectInit, .code objectInit ⟨#[0xb1]⟩ 1 none, .classLink RX1 7 RX3, .instantiable RX3 8, .initialized RX3, .fieldLink RX1 10 "StrikePlan$Image" "tower" "LStrikePlan$Tower;", .fieldLink RX1 16 "StrikePlan$Image" "drawSeed" "I", .fieldLink RX1 20 "StrikePlan$Image" "taken" "Z", .instanceMethod yX3_init, .code yX3_init cX3_init 1 none, .methodLink RX3 3 objectInit, .arrayClass .int, .fieldLink RX3 9 "StrikePlan$Tower" "bounds" "[I", .fieldLink RX3 15 "StrikePlan$Tower" "pouredOn" "[I", .fieldLink RX3 18 "StrikePlan$Tower" "slowness" "[I", .fieldLink RX3 21 "StrikePlan$Tower" "load" "[I", .fieldLink RX3 24 "StrikePlan$Tower" "part" "[I", .fieldLink RX3 27 "StrikePlan$Tower" "day" "I", .fieldLink RX3 31 "StrikePlan$Tower" "count" "I", .fieldLink RX3 34 "StrikePlan$Tower" "props" "I"] ++ wsX30 ++ wsX10)
def wsX3_copyFrom : List Cond := .code yX3_copyFrom cX3_copyFrom 3 none :: ([.fieldLink RX3 9 "StrikePlan$Tower" "bounds" "[I", .fieldLink RX3 31 "StrikePlan$Tower" "count" "I", .fieldLink RX3 15 "StrikePlan$Tower" "pouredOn" "[I", .fieldLink RX3 18 "StrikePlan$Tower" "slowness" "[I", .fieldLink RX3 21 "StrikePlan$Tower" "load" "[I", .fieldLink RX3 27 "StrikePlan$Tower" "day" "I", .fieldLink RX3 34 "StrikePlan$Tower" "props" "I"] ++ wsX30)
def wsX1_take : List Cond := .code yX1_take cX1_take 3 none :: ([.fieldLink RX1 10 "StrikePlan$Image" "tower" "LStrikePlan$Tower;", .fieldLink RX1 16 "StrikePlan$Image" "drawSeed" "I", .fieldLink RX1 20 "StrikePlan$Image" "taken" "Z", .methodLink RX1 24 yX3_copyFrom, .instanceMethod yX3_copyFrom, .selects RX3 yX3_copyFrom yX3_copyFrom, .initialized RX3, .code yX3_copyFrom cX3_copyFrom 3 none, .fieldLink RX3 9 "StrikePlan$Tower" "bounds" "[I", .fieldLink RX3 31 "StrikePlan$Tower" "count" "I", .fieldLink RX3 15 "StrikePlan$Tower" "pouredOn" "[I", .fieldLink RX3 18 "StrikePlan$Tower" "slowness" "[I", .fieldLink RX3 21 "StrikePlan$Tower" "load" "[I", .fieldLink RX3 27 "StrikePlan$Tower" "day" "I", .fieldLink RX3 34 "StrikePlan$Tower" "props" "I"] ++ wsX10 ++ wsX30)
def wsX2_init : List Cond := .code yX2_init cX2_init 2 none :: ([.methodLink RX2 3 objectInit, .instanceMethod objectInit, .code objectInit ⟨#[0xb1]⟩ 1 none, .classLink RX2 9 RX3, .fieldLink RX2 11 "StrikePlan$Past" "ring" "[LStrikePlan$Tower;", .fieldLink RX2 17 "StrikePlan$Past" "next" "I", .fieldLink RX2 21 "StrikePlan$Past" "size" "I", .instantiable RX3 8, .initialized RX3, .instanceMethod yX3_init, .code yX3_init cX3_init 1 none, .methodLink RX3 3 objectInit, .arrayClass .int, .fieldLink RX3 9 "StrikePlan$Tower" "bounds" "[I", .fieldLink RX3 15 "StrikePlan$Tower" "pouredOn" "[I", .fieldLink RX3 18 "StrikePlan$Tower" "slowness" "[I", .fieldLink RX3 21 "StrikePlan$Tower" "load" "[I", .fieldLink RX3 24 "StrikePlan$Tower" "part" "[I", .fieldLink RX3 27 "StrikePlan$Tower" "day" "I", .fieldLink RX3 31 "StrikePlan$Tower" "count" "I", .fieldLink RX3 34 "StrikePlan$Tower" "props" "I"] ++ wsX20 ++ wsX30)
def wsX2_note : List Cond := .code yX2_note cX2_note 2 none :: ([.fieldLink RX2 11 "StrikePlan$Past" "ring" "[LStrikePlan$Tower;", .fieldLink RX2 17 "StrikePlan$Past" "next" "I", .fieldLink RX2 21 "StrikePlan$Past" "size" "I", .methodLink RX2 29 Lib.Math.min.name, .static Lib.Math.min.name, .initialized "java/lang/Math", .code Lib.Math.min.name Lib.Math.min.code 2 (some .int), .methodLink RX2 25 yX3_copyFrom, .instanceMethod yX3_copyFrom, .selects RX3 yX3_copyFrom yX3_copyFrom, .initialized RX3, .code yX3_copyFrom cX3_copyFrom 3 none, .fieldLink RX3 9 "StrikePlan$Tower" "bounds" "[I", .fieldLink RX3 31 "StrikePlan$Tower" "count" "I", .fieldLink RX3 15 "StrikePlan$Tower" "pouredOn" "[I", .fieldLink RX3 18 "StrikePlan$Tower" "slowness" "[I", .fieldLink RX3 21 "StrikePlan$Tower" "load" "[I", .fieldLink RX3 27 "StrikePlan$Tower" "day" "I", .fieldLink RX3 34 "StrikePlan$Tower" "props" "I"] ++ wsX20 ++ wsX30)
def wsX2_takeBack : List Cond := .code yX2_takeBack cX2_takeBack 3 none :: ([.fieldLink RX2 21 "StrikePlan$Past" "size" "I", .fieldLink RX2 17 "StrikePlan$Past" "next" "I", .fieldLink RX2 11 "StrikePlan$Past" "ring" "[LStrikePlan$Tower;", .methodLink RX2 25 yX3_copyFrom, .instanceMethod yX3_copyFrom, .selects RX3 yX3_copyFrom yX3_copyFrom, .initialized RX3, .code yX3_copyFrom cX3_copyFrom 3 none, .fieldLink RX3 9 "StrikePlan$Tower" "bounds" "[I", .fieldLink RX3 31 "StrikePlan$Tower" "count" "I", .fieldLink RX3 15 "StrikePlan$Tower" "pouredOn" "[I", .fieldLink RX3 18 "StrikePlan$Tower" "slowness" "[I", .fieldLink RX3 21 "StrikePlan$Tower" "load" "[I", .fieldLink RX3 27 "StrikePlan$Tower" "day" "I", .fieldLink RX3 34 "StrikePlan$Tower" "props" "I"] ++ wsX20 ++ wsX30)
def wsX2_forget : List Cond := .code yX2_forget cX2_forget 1 none :: ([.fieldLink RX2 21 "StrikePlan$Past" "size" "I"] ++ wsX20)
def wsX3_empty : List Cond := .code yX3_empty cX3_empty 1 none :: ([.fieldLink RX3 27 "StrikePlan$Tower" "day" "I", .fieldLink RX3 31 "StrikePlan$Tower" "count" "I", .fieldLink RX3 34 "StrikePlan$Tower" "props" "I"] ++ wsX30)
def wsX3_ageOf : List Cond := .code yX3_ageOf cX3_ageOf 2 (some .int) :: ([.fieldLink RX3 27 "StrikePlan$Tower" "day" "I", .fieldLink RX3 15 "StrikePlan$Tower" "pouredOn" "[I"] ++ wsX30)
def wsX4_percentAt : List Cond := .code yX4_percentAt cX4_percentAt 5 (some .int) :: ([.constantLong RX4 198 (100), .constantLong RX4 200 (4)])
def wsX3_strengthOf : List Cond := .code yX3_strengthOf cX3_strengthOf 3 (some .int) :: ([.fieldLink RX3 18 "StrikePlan$Tower" "slowness" "[I", .fieldLink RX3 9 "StrikePlan$Tower" "bounds" "[I", .methodLink RX3 37 yX3_ageOf, .instanceMethod yX3_ageOf, .selects RX3 yX3_ageOf yX3_ageOf, .initialized RX3, .code yX3_ageOf cX3_ageOf 2 (some .int), .fieldLink RX3 27 "StrikePlan$Tower" "day" "I", .fieldLink RX3 15 "StrikePlan$Tower" "pouredOn" "[I", .static yX4_percentAt, .initialized RX4, .code yX4_percentAt cX4_percentAt 5 (some .int), .constantLong RX4 198 (100), .constantLong RX4 200 (4)] ++ wsX30)
def wsX3_isPropped : List Cond := .code yX3_isPropped cX3_isPropped 2 (some .boolean) :: ([.fieldLink RX3 34 "StrikePlan$Tower" "props" "I"] ++ wsX30)
def wsX3_lowestPropped : List Cond := .code yX3_lowestPropped cX3_lowestPropped 2 (some .int) :: ([.fieldLink RX3 31 "StrikePlan$Tower" "count" "I", .methodLink RX3 45 yX3_isPropped, .instanceMethod yX3_isPropped, .selects RX3 yX3_isPropped yX3_isPropped, .initialized RX3, .code yX3_isPropped cX3_isPropped 2 (some .boolean), .fieldLink RX3 34 "StrikePlan$Tower" "props" "I"] ++ wsX30)
def wsX3_lowestOf : List Cond := .code yX3_lowestOf cX3_lowestOf 3 (some .int) :: ([.methodLink RX3 45 yX3_isPropped, .instanceMethod yX3_isPropped, .selects RX3 yX3_isPropped yX3_isPropped, .initialized RX3, .code yX3_isPropped cX3_isPropped 2 (some .boolean), .fieldLink RX3 34 "StrikePlan$Tower" "props" "I"] ++ wsX30)
def wsX3_highestOf : List Cond := .code yX3_highestOf cX3_highestOf 3 (some .int) :: ([.fieldLink RX3 31 "StrikePlan$Tower" "count" "I", .methodLink RX3 45 yX3_isPropped, .instanceMethod yX3_isPropped, .selects RX3 yX3_isPropped yX3_isPropped, .initialized RX3, .code yX3_isPropped cX3_isPropped 2 (some .boolean), .fieldLink RX3 34 "StrikePlan$Tower" "props" "I"] ++ wsX30)
def wsX3_isGrounded : List Cond := .code yX3_isGrounded cX3_isGrounded 2 (some .boolean) :: ([.methodLink RX3 49 yX3_lowestOf, .instanceMethod yX3_lowestOf, .selects RX3 yX3_lowestOf yX3_lowestOf, .initialized RX3, .code yX3_lowestOf cX3_lowestOf 3 (some .int), .methodLink RX3 45 yX3_isPropped, .instanceMethod yX3_isPropped, .selects RX3 yX3_isPropped yX3_isPropped, .code yX3_isPropped cX3_isPropped 2 (some .boolean), .fieldLink RX3 34 "StrikePlan$Tower" "props" "I"] ++ wsX30)
def wsX3_forceUnder : List Cond := .code yX3_forceUnder cX3_forceUnder 5 (some .int) :: ([.fieldLink RX3 9 "StrikePlan$Tower" "bounds" "[I", .fieldLink RX3 21 "StrikePlan$Tower" "load" "[I", .methodLink RX3 45 yX3_isPropped, .instanceMethod yX3_isPropped, .selects RX3 yX3_isPropped yX3_isPropped, .initialized RX3, .code yX3_isPropped cX3_isPropped 2 (some .boolean), .fieldLink RX3 34 "StrikePlan$Tower" "props" "I", .methodLink RX3 52 yX3_highestOf, .instanceMethod yX3_highestOf, .selects RX3 yX3_highestOf yX3_highestOf, .code yX3_highestOf cX3_highestOf 3 (some .int), .fieldLink RX3 31 "StrikePlan$Tower" "count" "I"] ++ wsX30)
def wsX3_weakSet : List Cond := .code yX3_weakSet cX3_weakSet 3 (some .int) :: ([.fieldLink RX3 31 "StrikePlan$Tower" "count" "I", .fieldLink RX3 21 "StrikePlan$Tower" "load" "[I", .methodLink RX3 55 yX3_strengthOf, .instanceMethod yX3_strengthOf, .selects RX3 yX3_strengthOf yX3_strengthOf, .initialized RX3, .code yX3_strengthOf cX3_strengthOf 3 (some .int), .fieldLink RX3 18 "StrikePlan$Tower" "slowness" "[I", .fieldLink RX3 9 "StrikePlan$Tower" "bounds" "[I", .methodLink RX3 37 yX3_ageOf, .instanceMethod yX3_ageOf, .selects RX3 yX3_ageOf yX3_ageOf, .code yX3_ageOf cX3_ageOf 2 (some .int), .fieldLink RX3 27 "StrikePlan$Tower" "day" "I", .fieldLink RX3 15 "StrikePlan$Tower" "pouredOn" "[I", .static yX4_percentAt, .initialized RX4, .code yX4_percentAt cX4_percentAt 5 (some .int), .constantLong RX4 198 (100), .constantLong RX4 200 (4)] ++ wsX30)
def wsX3_isSafe : List Cond := .code yX3_isSafe cX3_isSafe 1 (some .boolean) :: ([.methodLink RX3 58 yX3_weakSet, .instanceMethod yX3_weakSet, .selects RX3 yX3_weakSet yX3_weakSet, .initialized RX3, .code yX3_weakSet cX3_weakSet 3 (some .int), .fieldLink RX3 31 "StrikePlan$Tower" "count" "I", .fieldLink RX3 21 "StrikePlan$Tower" "load" "[I", .methodLink RX3 55 yX3_strengthOf, .instanceMethod yX3_strengthOf, .selects RX3 yX3_strengthOf yX3_strengthOf, .code yX3_strengthOf cX3_strengthOf 3 (some .int), .fieldLink RX3 18 "StrikePlan$Tower" "slowness" "[I", .fieldLink RX3 9 "StrikePlan$Tower" "bounds" "[I", .methodLink RX3 37 yX3_ageOf, .instanceMethod yX3_ageOf, .selects RX3 yX3_ageOf yX3_ageOf, .code yX3_ageOf cX3_ageOf 2 (some .int), .fieldLink RX3 27 "StrikePlan$Tower" "day" "I", .fieldLink RX3 15 "StrikePlan$Tower" "pouredOn" "[I", .static yX4_percentAt, .initialized RX4, .code yX4_percentAt cX4_percentAt 5 (some .int), .constantLong RX4 198 (100), .constantLong RX4 200 (4)] ++ wsX30)
def wsX3_greatestExcess : List Cond := .code yX3_greatestExcess cX3_greatestExcess 3 (some .int) :: ([.fieldLink RX3 21 "StrikePlan$Tower" "load" "[I", .fieldLink RX3 31 "StrikePlan$Tower" "count" "I", .methodLink RX3 62 Lib.Math.max.name, .static Lib.Math.max.name, .initialized "java/lang/Math", .code Lib.Math.max.name Lib.Math.max.code 2 (some .int), .methodLink RX3 55 yX3_strengthOf, .instanceMethod yX3_strengthOf, .selects RX3 yX3_strengthOf yX3_strengthOf, .initialized RX3, .code yX3_strengthOf cX3_strengthOf 3 (some .int), .fieldLink RX3 18 "StrikePlan$Tower" "slowness" "[I", .fieldLink RX3 9 "StrikePlan$Tower" "bounds" "[I", .methodLink RX3 37 yX3_ageOf, .instanceMethod yX3_ageOf, .selects RX3 yX3_ageOf yX3_ageOf, .code yX3_ageOf cX3_ageOf 2 (some .int), .fieldLink RX3 27 "StrikePlan$Tower" "day" "I", .fieldLink RX3 15 "StrikePlan$Tower" "pouredOn" "[I", .static yX4_percentAt, .initialized RX4, .code yX4_percentAt cX4_percentAt 5 (some .int), .constantLong RX4 198 (100), .constantLong RX4 200 (4)] ++ wsX30)
def wsX3_putProps : List Cond := .code yX3_putProps cX3_putProps 2 none :: ([.fieldLink RX3 34 "StrikePlan$Tower" "props" "I"] ++ wsX30)
def wsJ7_fill_53178 : List Cond := .code yJ7_fill_53178 cJ7_fill_53178 4 none :: ([])
def wsX3_spreadByOnes : List Cond := .code yX3_spreadByOnes cX3_spreadByOnes 7 none :: ([.fieldLink RX3 24 "StrikePlan$Tower" "part" "[I", .fieldLink RX3 21 "StrikePlan$Tower" "load" "[I"] ++ wsX30)
def wsX3_shareAmong_r1 : List Cond := [Cond.fieldLink RX3 9 "StrikePlan$Tower" "bounds" "[I", Cond.fieldLink RX3 24 "StrikePlan$Tower" "part" "[I", Cond.methodLink RX3 81 Lib.Math.min.name, Cond.static Lib.Math.min.name, Cond.initialized "java/lang/Math", Cond.code Lib.Math.min.name Lib.Math.min.code 2 (some .int), Cond.methodLink RX3 62 Lib.Math.max.name, Cond.static Lib.Math.max.name, Cond.code Lib.Math.max.name Lib.Math.max.code 2 (some .int), Cond.fieldLink RX3 21 "StrikePlan$Tower" "load" "[I", Cond.methodLink RX3 49 yX3_lowestOf, Cond.instanceMethod yX3_lowestOf, Cond.selects RX3 yX3_lowestOf yX3_lowestOf, Cond.initialized RX3, Cond.code yX3_lowestOf cX3_lowestOf 3 (some .int), Cond.methodLink RX3 45 yX3_isPropped, Cond.instanceMethod yX3_isPropped, Cond.selects RX3 yX3_isPropped yX3_isPropped, Cond.code yX3_isPropped cX3_isPropped 2 (some .boolean), Cond.fieldLink RX3 34 "StrikePlan$Tower" "props" "I", Cond.methodLink RX3 52 yX3_highestOf, Cond.instanceMethod yX3_highestOf, Cond.selects RX3 yX3_highestOf yX3_highestOf, Cond.code yX3_highestOf cX3_highestOf 3 (some .int)]
def wsX3_shareAmong_r2 : List Cond := [Cond.fieldLink RX3 31 "StrikePlan$Tower" "count" "I", Cond.methodLink RX3 37 yX3_ageOf, Cond.instanceMethod yX3_ageOf, Cond.selects RX3 yX3_ageOf yX3_ageOf, Cond.code yX3_ageOf cX3_ageOf 2 (some .int), Cond.fieldLink RX3 27 "StrikePlan$Tower" "day" "I", Cond.fieldLink RX3 15 "StrikePlan$Tower" "pouredOn" "[I", Cond.methodLink RX3 55 yX3_strengthOf, Cond.instanceMethod yX3_strengthOf, Cond.selects RX3 yX3_strengthOf yX3_strengthOf, Cond.code yX3_strengthOf cX3_strengthOf 3 (some .int), Cond.fieldLink RX3 18 "StrikePlan$Tower" "slowness" "[I", Cond.static yX4_percentAt, Cond.initialized RX4, Cond.code yX4_percentAt cX4_percentAt 5 (some .int), Cond.constantLong RX4 198 (100), Cond.constantLong RX4 200 (4), Cond.methodLink RX3 84 yJ7_fill_53178, Cond.static yJ7_fill_53178, Cond.initialized RJ7, Cond.code yJ7_fill_53178 cJ7_fill_53178 4 none, Cond.methodLink RX3 90 yX3_spreadByOnes, Cond.instanceMethod yX3_spreadByOnes, Cond.selects RX3 yX3_spreadByOnes yX3_spreadByOnes]
def wsX3_shareAmong_r3 : List Cond := [Cond.code yX3_spreadByOnes cX3_spreadByOnes 7 none]
def wsX3_shareAmong : List Cond := .code yX3_shareAmong cX3_shareAmong 11 none :: ((wsX3_shareAmong_r1 ++ (wsX3_shareAmong_r2 ++ wsX3_shareAmong_r3)) ++ wsX30)
def wsX3_addFloor_r1 : List Cond := [Cond.fieldLink RX3 31 "StrikePlan$Tower" "count" "I", Cond.fieldLink RX3 15 "StrikePlan$Tower" "pouredOn" "[I", Cond.fieldLink RX3 27 "StrikePlan$Tower" "day" "I", Cond.fieldLink RX3 18 "StrikePlan$Tower" "slowness" "[I", Cond.fieldLink RX3 21 "StrikePlan$Tower" "load" "[I", Cond.fieldLink RX3 9 "StrikePlan$Tower" "bounds" "[I", Cond.methodLink RX3 67 yX3_putProps, Cond.instanceMethod yX3_putProps, Cond.selects RX3 yX3_putProps yX3_putProps, Cond.initialized RX3, Cond.code yX3_putProps cX3_putProps 2 none, Cond.fieldLink RX3 34 "StrikePlan$Tower" "props" "I", Cond.methodLink RX3 71 yX3_shareAmong, Cond.instanceMethod yX3_shareAmong, Cond.selects RX3 yX3_shareAmong yX3_shareAmong, Cond.code yX3_shareAmong cX3_shareAmong 11 none, Cond.fieldLink RX3 24 "StrikePlan$Tower" "part" "[I", Cond.methodLink RX3 81 Lib.Math.min.name, Cond.static Lib.Math.min.name, Cond.initialized "java/lang/Math", Cond.code Lib.Math.min.name Lib.Math.min.code 2 (some .int), Cond.methodLink RX3 62 Lib.Math.max.name, Cond.static Lib.Math.max.name, Cond.code Lib.Math.max.name Lib.Math.max.code 2 (some .int)]
def wsX3_addFloor_r2 : List Cond := [Cond.methodLink RX3 49 yX3_lowestOf, Cond.instanceMethod yX3_lowestOf, Cond.selects RX3 yX3_lowestOf yX3_lowestOf, Cond.code yX3_lowestOf cX3_lowestOf 3 (some .int), Cond.methodLink RX3 45 yX3_isPropped, Cond.instanceMethod yX3_isPropped, Cond.selects RX3 yX3_isPropped yX3_isPropped, Cond.code yX3_isPropped cX3_isPropped 2 (some .boolean), Cond.methodLink RX3 52 yX3_highestOf, Cond.instanceMethod yX3_highestOf, Cond.selects RX3 yX3_highestOf yX3_highestOf, Cond.code yX3_highestOf cX3_highestOf 3 (some .int), Cond.methodLink RX3 37 yX3_ageOf, Cond.instanceMethod yX3_ageOf, Cond.selects RX3 yX3_ageOf yX3_ageOf, Cond.code yX3_ageOf cX3_ageOf 2 (some .int), Cond.methodLink RX3 55 yX3_strengthOf, Cond.instanceMethod yX3_strengthOf, Cond.selects RX3 yX3_strengthOf yX3_strengthOf, Cond.code yX3_strengthOf cX3_strengthOf 3 (some .int), Cond.static yX4_percentAt, Cond.initialized RX4, Cond.code yX4_percentAt cX4_percentAt 5 (some .int), Cond.constantLong RX4 198 (100)]
def wsX3_addFloor_r3 : List Cond := [Cond.constantLong RX4 200 (4), Cond.methodLink RX3 84 yJ7_fill_53178, Cond.static yJ7_fill_53178, Cond.initialized RJ7, Cond.code yJ7_fill_53178 cJ7_fill_53178 4 none, Cond.methodLink RX3 90 yX3_spreadByOnes, Cond.instanceMethod yX3_spreadByOnes, Cond.selects RX3 yX3_spreadByOnes yX3_spreadByOnes, Cond.code yX3_spreadByOnes cX3_spreadByOnes 7 none]
def wsX3_addFloor : List Cond := .code yX3_addFloor cX3_addFloor 2 none :: ((wsX3_addFloor_r1 ++ (wsX3_addFloor_r2 ++ wsX3_addFloor_r3)) ++ wsX30)
def wsX3_takeProps_r1 : List Cond := [Cond.fieldLink RX3 34 "StrikePlan$Tower" "props" "I", Cond.methodLink RX3 75 yX3_has, Cond.instanceMethod yX3_has, Cond.selects RX3 yX3_has yX3_has, Cond.initialized RX3, Cond.code yX3_has cX3_has 2 (some .boolean), Cond.fieldLink RX3 31 "StrikePlan$Tower" "count" "I", Cond.methodLink RX3 78 yX3_forceUnder, Cond.instanceMethod yX3_forceUnder, Cond.selects RX3 yX3_forceUnder yX3_forceUnder, Cond.code yX3_forceUnder cX3_forceUnder 5 (some .int), Cond.fieldLink RX3 9 "StrikePlan$Tower" "bounds" "[I", Cond.fieldLink RX3 21 "StrikePlan$Tower" "load" "[I", Cond.methodLink RX3 45 yX3_isPropped, Cond.instanceMethod yX3_isPropped, Cond.selects RX3 yX3_isPropped yX3_isPropped, Cond.code yX3_isPropped cX3_isPropped 2 (some .boolean), Cond.methodLink RX3 52 yX3_highestOf, Cond.instanceMethod yX3_highestOf, Cond.selects RX3 yX3_highestOf yX3_highestOf, Cond.code yX3_highestOf cX3_highestOf 3 (some .int), Cond.methodLink RX3 71 yX3_shareAmong, Cond.instanceMethod yX3_shareAmong, Cond.selects RX3 yX3_shareAmong yX3_shareAmong]
def wsX3_takeProps_r2 : List Cond := [Cond.code yX3_shareAmong cX3_shareAmong 11 none, Cond.fieldLink RX3 24 "StrikePlan$Tower" "part" "[I", Cond.methodLink RX3 81 Lib.Math.min.name, Cond.static Lib.Math.min.name, Cond.initialized "java/lang/Math", Cond.code Lib.Math.min.name Lib.Math.min.code 2 (some .int), Cond.methodLink RX3 62 Lib.Math.max.name, Cond.static Lib.Math.max.name, Cond.code Lib.Math.max.name Lib.Math.max.code 2 (some .int), Cond.methodLink RX3 49 yX3_lowestOf, Cond.instanceMethod yX3_lowestOf, Cond.selects RX3 yX3_lowestOf yX3_lowestOf, Cond.code yX3_lowestOf cX3_lowestOf 3 (some .int), Cond.methodLink RX3 37 yX3_ageOf, Cond.instanceMethod yX3_ageOf, Cond.selects RX3 yX3_ageOf yX3_ageOf, Cond.code yX3_ageOf cX3_ageOf 2 (some .int), Cond.fieldLink RX3 27 "StrikePlan$Tower" "day" "I", Cond.fieldLink RX3 15 "StrikePlan$Tower" "pouredOn" "[I", Cond.methodLink RX3 55 yX3_strengthOf, Cond.instanceMethod yX3_strengthOf, Cond.selects RX3 yX3_strengthOf yX3_strengthOf, Cond.code yX3_strengthOf cX3_strengthOf 3 (some .int), Cond.fieldLink RX3 18 "StrikePlan$Tower" "slowness" "[I"]
def wsX3_takeProps_r3 : List Cond := [Cond.static yX4_percentAt, Cond.initialized RX4, Cond.code yX4_percentAt cX4_percentAt 5 (some .int), Cond.constantLong RX4 198 (100), Cond.constantLong RX4 200 (4), Cond.methodLink RX3 84 yJ7_fill_53178, Cond.static yJ7_fill_53178, Cond.initialized RJ7, Cond.code yJ7_fill_53178 cJ7_fill_53178 4 none, Cond.methodLink RX3 90 yX3_spreadByOnes, Cond.instanceMethod yX3_spreadByOnes, Cond.selects RX3 yX3_spreadByOnes yX3_spreadByOnes, Cond.code yX3_spreadByOnes cX3_spreadByOnes 7 none]
def wsX3_takeProps : List Cond := .code yX3_takeProps cX3_takeProps 3 none :: ((wsX3_takeProps_r1 ++ (wsX3_takeProps_r2 ++ wsX3_takeProps_r3)) ++ wsX30)
def wsX4_init_r1 : List Cond := [Cond.methodLink RX4 1 objectInit, Cond.instanceMethod objectInit, Cond.code objectInit ⟨#[0xb1]⟩ 1 none, Cond.classLink RX4 7 RX3, Cond.instantiable RX3 8, Cond.initialized RX3, Cond.fieldLink RX4 10 "StrikePlan" "now" "LStrikePlan$Tower;", Cond.fieldLink RX4 16 "StrikePlan" "trial" "LStrikePlan$Tower;", Cond.classLink RX4 19 RX2, Cond.instantiable RX2 3, Cond.initialized RX2, Cond.fieldLink RX4 22 "StrikePlan" "past" "LStrikePlan$Past;", Cond.classLink RX4 26 RX0, Cond.instantiable RX0 3, Cond.initialized RX0, Cond.fieldLink RX4 29 "StrikePlan" "book" "LStrikePlan$Book;", Cond.classLink RX4 33 RX1, Cond.fieldLink RX4 35 "StrikePlan" "images" "[LStrikePlan$Image;", Cond.fieldLink RX4 39 "StrikePlan" "drawSeed" "I", Cond.instantiable RX1 3, Cond.initialized RX1, Cond.instanceMethod yX3_init, Cond.code yX3_init cX3_init 1 none, Cond.methodLink RX3 3 objectInit]
def wsX4_init_r2 : List Cond := [Cond.arrayClass .int, Cond.fieldLink RX3 9 "StrikePlan$Tower" "bounds" "[I", Cond.fieldLink RX3 15 "StrikePlan$Tower" "pouredOn" "[I", Cond.fieldLink RX3 18 "StrikePlan$Tower" "slowness" "[I", Cond.fieldLink RX3 21 "StrikePlan$Tower" "load" "[I", Cond.fieldLink RX3 24 "StrikePlan$Tower" "part" "[I", Cond.fieldLink RX3 27 "StrikePlan$Tower" "day" "I", Cond.fieldLink RX3 31 "StrikePlan$Tower" "count" "I", Cond.fieldLink RX3 34 "StrikePlan$Tower" "props" "I", Cond.methodLink RX4 21 yX2_init, Cond.instanceMethod yX2_init, Cond.code yX2_init cX2_init 2 none, Cond.methodLink RX2 3 objectInit, Cond.classLink RX2 9 RX3, Cond.fieldLink RX2 11 "StrikePlan$Past" "ring" "[LStrikePlan$Tower;", Cond.fieldLink RX2 17 "StrikePlan$Past" "next" "I", Cond.fieldLink RX2 21 "StrikePlan$Past" "size" "I", Cond.instanceMethod yX0_init, Cond.code yX0_init cX0_init 1 none, Cond.methodLink RX0 3 objectInit, Cond.fieldLink RX0 9 "StrikePlan$Book" "floors" "[I", Cond.fieldLink RX0 15 "StrikePlan$Book" "loads" "[I", Cond.fieldLink RX0 18 "StrikePlan$Book" "size" "I", Cond.instanceMethod yX1_init]
def wsX4_init_r3 : List Cond := [Cond.code yX1_init cX1_init 1 none, Cond.methodLink RX1 1 objectInit, Cond.classLink RX1 7 RX3, Cond.fieldLink RX1 10 "StrikePlan$Image" "tower" "LStrikePlan$Tower;", Cond.fieldLink RX1 16 "StrikePlan$Image" "drawSeed" "I", Cond.fieldLink RX1 20 "StrikePlan$Image" "taken" "Z"]
def wsX4_init : List Cond := .code yX4_init cX4_init 2 none :: ((wsX4_init_r1 ++ (wsX4_init_r2 ++ wsX4_init_r3)) ++ wsX30 ++ wsX40 ++ wsX20 ++ wsX00 ++ wsX10)
def wsX4_tryStrike_r1 : List Cond := [Cond.fieldLink RX4 10 "StrikePlan" "now" "LStrikePlan$Tower;", Cond.fieldLink RX4 16 "StrikePlan" "trial" "LStrikePlan$Tower;", Cond.fieldLink RX4 44 "StrikePlan$Tower" "day" "I", Cond.methodLink RX4 68 yX3_has, Cond.instanceMethod yX3_has, Cond.selects RX3 yX3_has yX3_has, Cond.initialized RX3, Cond.code yX3_has cX3_has 2 (some .boolean), Cond.fieldLink RX3 31 "StrikePlan$Tower" "count" "I", Cond.methodLink RX4 98 yX3_isPropped, Cond.instanceMethod yX3_isPropped, Cond.selects RX3 yX3_isPropped yX3_isPropped, Cond.code yX3_isPropped cX3_isPropped 2 (some .boolean), Cond.fieldLink RX3 34 "StrikePlan$Tower" "props" "I", Cond.methodLink RX4 136 yX3_copyFrom, Cond.instanceMethod yX3_copyFrom, Cond.selects RX3 yX3_copyFrom yX3_copyFrom, Cond.code yX3_copyFrom cX3_copyFrom 3 none, Cond.fieldLink RX3 9 "StrikePlan$Tower" "bounds" "[I", Cond.fieldLink RX3 15 "StrikePlan$Tower" "pouredOn" "[I", Cond.fieldLink RX3 18 "StrikePlan$Tower" "slowness" "[I", Cond.fieldLink RX3 21 "StrikePlan$Tower" "load" "[I", Cond.fieldLink RX3 27 "StrikePlan$Tower" "day" "I", Cond.methodLink RX4 181 yX3_takeProps]
def wsX4_tryStrike_r2 : List Cond := [Cond.instanceMethod yX3_takeProps, Cond.selects RX3 yX3_takeProps yX3_takeProps, Cond.code yX3_takeProps cX3_takeProps 3 none, Cond.methodLink RX3 75 yX3_has, Cond.methodLink RX3 78 yX3_forceUnder, Cond.instanceMethod yX3_forceUnder, Cond.selects RX3 yX3_forceUnder yX3_forceUnder, Cond.code yX3_forceUnder cX3_forceUnder 5 (some .int), Cond.methodLink RX3 45 yX3_isPropped, Cond.methodLink RX3 52 yX3_highestOf, Cond.instanceMethod yX3_highestOf, Cond.selects RX3 yX3_highestOf yX3_highestOf, Cond.code yX3_highestOf cX3_highestOf 3 (some .int), Cond.methodLink RX3 71 yX3_shareAmong, Cond.instanceMethod yX3_shareAmong, Cond.selects RX3 yX3_shareAmong yX3_shareAmong, Cond.code yX3_shareAmong cX3_shareAmong 11 none, Cond.fieldLink RX3 24 "StrikePlan$Tower" "part" "[I", Cond.methodLink RX3 81 Lib.Math.min.name, Cond.static Lib.Math.min.name, Cond.initialized "java/lang/Math", Cond.code Lib.Math.min.name Lib.Math.min.code 2 (some .int), Cond.methodLink RX3 62 Lib.Math.max.name, Cond.static Lib.Math.max.name]
def wsX4_tryStrike_r3 : List Cond := [Cond.code Lib.Math.max.name Lib.Math.max.code 2 (some .int), Cond.methodLink RX3 49 yX3_lowestOf, Cond.instanceMethod yX3_lowestOf, Cond.selects RX3 yX3_lowestOf yX3_lowestOf, Cond.code yX3_lowestOf cX3_lowestOf 3 (some .int), Cond.methodLink RX3 37 yX3_ageOf, Cond.instanceMethod yX3_ageOf, Cond.selects RX3 yX3_ageOf yX3_ageOf, Cond.code yX3_ageOf cX3_ageOf 2 (some .int), Cond.methodLink RX3 55 yX3_strengthOf, Cond.instanceMethod yX3_strengthOf, Cond.selects RX3 yX3_strengthOf yX3_strengthOf, Cond.code yX3_strengthOf cX3_strengthOf 3 (some .int), Cond.static yX4_percentAt, Cond.initialized RX4, Cond.code yX4_percentAt cX4_percentAt 5 (some .int), Cond.constantLong RX4 198 (100), Cond.constantLong RX4 200 (4), Cond.methodLink RX3 84 yJ7_fill_53178, Cond.static yJ7_fill_53178, Cond.initialized RJ7, Cond.code yJ7_fill_53178 cJ7_fill_53178 4 none, Cond.methodLink RX3 90 yX3_spreadByOnes, Cond.instanceMethod yX3_spreadByOnes]
def wsX4_tryStrike_r4 : List Cond := [Cond.selects RX3 yX3_spreadByOnes yX3_spreadByOnes, Cond.code yX3_spreadByOnes cX3_spreadByOnes 7 none, Cond.methodLink RX4 61 yX3_isSafe, Cond.instanceMethod yX3_isSafe, Cond.selects RX3 yX3_isSafe yX3_isSafe, Cond.code yX3_isSafe cX3_isSafe 1 (some .boolean), Cond.methodLink RX3 58 yX3_weakSet, Cond.instanceMethod yX3_weakSet, Cond.selects RX3 yX3_weakSet yX3_weakSet, Cond.code yX3_weakSet cX3_weakSet 3 (some .int)]
def wsX4_tryStrike : List Cond := .code yX4_tryStrike cX4_tryStrike 3 (some .boolean) :: ((wsX4_tryStrike_r1 ++ (wsX4_tryStrike_r2 ++ (wsX4_tryStrike_r3 ++ wsX4_tryStrike_r4))) ++ wsX40 ++ wsX30)
def wsX4_maySet_r1 : List Cond := [Cond.fieldLink RX4 10 "StrikePlan" "now" "LStrikePlan$Tower;", Cond.fieldLink RX4 47 "StrikePlan$Tower" "count" "I", Cond.methodLink RX4 120 yX4_tryStrike, Cond.instanceMethod yX4_tryStrike, Cond.selects RX4 yX4_tryStrike yX4_tryStrike, Cond.initialized RX4, Cond.code yX4_tryStrike cX4_tryStrike 3 (some .boolean), Cond.fieldLink RX4 16 "StrikePlan" "trial" "LStrikePlan$Tower;", Cond.fieldLink RX4 44 "StrikePlan$Tower" "day" "I", Cond.methodLink RX4 68 yX3_has, Cond.instanceMethod yX3_has, Cond.selects RX3 yX3_has yX3_has, Cond.initialized RX3, Cond.code yX3_has cX3_has 2 (some .boolean), Cond.fieldLink RX3 31 "StrikePlan$Tower" "count" "I", Cond.methodLink RX4 98 yX3_isPropped, Cond.instanceMethod yX3_isPropped, Cond.selects RX3 yX3_isPropped yX3_isPropped, Cond.code yX3_isPropped cX3_isPropped 2 (some .boolean), Cond.fieldLink RX3 34 "StrikePlan$Tower" "props" "I", Cond.methodLink RX4 136 yX3_copyFrom, Cond.instanceMethod yX3_copyFrom, Cond.selects RX3 yX3_copyFrom yX3_copyFrom, Cond.code yX3_copyFrom cX3_copyFrom 3 none]
def wsX4_maySet_r2 : List Cond := [Cond.fieldLink RX3 9 "StrikePlan$Tower" "bounds" "[I", Cond.fieldLink RX3 15 "StrikePlan$Tower" "pouredOn" "[I", Cond.fieldLink RX3 18 "StrikePlan$Tower" "slowness" "[I", Cond.fieldLink RX3 21 "StrikePlan$Tower" "load" "[I", Cond.fieldLink RX3 27 "StrikePlan$Tower" "day" "I", Cond.methodLink RX4 181 yX3_takeProps, Cond.instanceMethod yX3_takeProps, Cond.selects RX3 yX3_takeProps yX3_takeProps, Cond.code yX3_takeProps cX3_takeProps 3 none, Cond.methodLink RX3 75 yX3_has, Cond.methodLink RX3 78 yX3_forceUnder, Cond.instanceMethod yX3_forceUnder, Cond.selects RX3 yX3_forceUnder yX3_forceUnder, Cond.code yX3_forceUnder cX3_forceUnder 5 (some .int), Cond.methodLink RX3 45 yX3_isPropped, Cond.methodLink RX3 52 yX3_highestOf, Cond.instanceMethod yX3_highestOf, Cond.selects RX3 yX3_highestOf yX3_highestOf, Cond.code yX3_highestOf cX3_highestOf 3 (some .int), Cond.methodLink RX3 71 yX3_shareAmong, Cond.instanceMethod yX3_shareAmong, Cond.selects RX3 yX3_shareAmong yX3_shareAmong, Cond.code yX3_shareAmong cX3_shareAmong 11 none, Cond.fieldLink RX3 24 "StrikePlan$Tower" "part" "[I"]
def wsX4_maySet_r3 : List Cond := [Cond.methodLink RX3 81 Lib.Math.min.name, Cond.static Lib.Math.min.name, Cond.initialized "java/lang/Math", Cond.code Lib.Math.min.name Lib.Math.min.code 2 (some .int), Cond.methodLink RX3 62 Lib.Math.max.name, Cond.static Lib.Math.max.name, Cond.code Lib.Math.max.name Lib.Math.max.code 2 (some .int), Cond.methodLink RX3 49 yX3_lowestOf, Cond.instanceMethod yX3_lowestOf, Cond.selects RX3 yX3_lowestOf yX3_lowestOf, Cond.code yX3_lowestOf cX3_lowestOf 3 (some .int), Cond.methodLink RX3 37 yX3_ageOf, Cond.instanceMethod yX3_ageOf, Cond.selects RX3 yX3_ageOf yX3_ageOf, Cond.code yX3_ageOf cX3_ageOf 2 (some .int), Cond.methodLink RX3 55 yX3_strengthOf, Cond.instanceMethod yX3_strengthOf, Cond.selects RX3 yX3_strengthOf yX3_strengthOf, Cond.code yX3_strengthOf cX3_strengthOf 3 (some .int), Cond.static yX4_percentAt, Cond.code yX4_percentAt cX4_percentAt 5 (some .int), Cond.constantLong RX4 198 (100), Cond.constantLong RX4 200 (4), Cond.methodLink RX3 84 yJ7_fill_53178]
def wsX4_maySet_r4 : List Cond := [Cond.static yJ7_fill_53178, Cond.initialized RJ7, Cond.code yJ7_fill_53178 cJ7_fill_53178 4 none, Cond.methodLink RX3 90 yX3_spreadByOnes, Cond.instanceMethod yX3_spreadByOnes, Cond.selects RX3 yX3_spreadByOnes yX3_spreadByOnes, Cond.code yX3_spreadByOnes cX3_spreadByOnes 7 none, Cond.methodLink RX4 61 yX3_isSafe, Cond.instanceMethod yX3_isSafe, Cond.selects RX3 yX3_isSafe yX3_isSafe, Cond.code yX3_isSafe cX3_isSafe 1 (some .boolean), Cond.methodLink RX3 58 yX3_weakSet, Cond.instanceMethod yX3_weakSet, Cond.selects RX3 yX3_weakSet yX3_weakSet, Cond.code yX3_weakSet cX3_weakSet 3 (some .int)]
def wsX4_maySet : List Cond := .code yX4_maySet cX4_maySet 3 (some .int) :: ((wsX4_maySet_r1 ++ (wsX4_maySet_r2 ++ (wsX4_maySet_r3 ++ wsX4_maySet_r4))) ++ wsX40 ++ wsX30)
def wsX4_told_r1 : List Cond := [Cond.fieldLink RX4 10 "StrikePlan" "now" "LStrikePlan$Tower;", Cond.fieldLink RX4 44 "StrikePlan$Tower" "day" "I", Cond.fieldLink RX4 47 "StrikePlan$Tower" "count" "I", Cond.fieldLink RX4 50 "StrikePlan$Tower" "bounds" "[I", Cond.fieldLink RX4 54 "StrikePlan$Tower" "props" "I", Cond.fieldLink RX4 29 "StrikePlan" "book" "LStrikePlan$Book;", Cond.fieldLink RX4 76 "StrikePlan$Book" "size" "I", Cond.fieldLink RX4 22 "StrikePlan" "past" "LStrikePlan$Past;", Cond.fieldLink RX4 83 "StrikePlan$Past" "size" "I", Cond.constant RX4 84 (-1000000002), Cond.methodLink RX4 57 yX3_weakSet, Cond.instanceMethod yX3_weakSet, Cond.selects RX3 yX3_weakSet yX3_weakSet, Cond.initialized RX3, Cond.code yX3_weakSet cX3_weakSet 3 (some .int), Cond.fieldLink RX3 31 "StrikePlan$Tower" "count" "I", Cond.fieldLink RX3 21 "StrikePlan$Tower" "load" "[I", Cond.methodLink RX3 55 yX3_strengthOf, Cond.instanceMethod yX3_strengthOf, Cond.selects RX3 yX3_strengthOf yX3_strengthOf, Cond.code yX3_strengthOf cX3_strengthOf 3 (some .int), Cond.fieldLink RX3 18 "StrikePlan$Tower" "slowness" "[I", Cond.fieldLink RX3 9 "StrikePlan$Tower" "bounds" "[I", Cond.methodLink RX3 37 yX3_ageOf]
def wsX4_told_r2 : List Cond := [Cond.instanceMethod yX3_ageOf, Cond.selects RX3 yX3_ageOf yX3_ageOf, Cond.code yX3_ageOf cX3_ageOf 2 (some .int), Cond.fieldLink RX3 27 "StrikePlan$Tower" "day" "I", Cond.fieldLink RX3 15 "StrikePlan$Tower" "pouredOn" "[I", Cond.static yX4_percentAt, Cond.initialized RX4, Cond.code yX4_percentAt cX4_percentAt 5 (some .int), Cond.constantLong RX4 198 (100), Cond.constantLong RX4 200 (4), Cond.methodLink RX4 61 yX3_isSafe, Cond.instanceMethod yX3_isSafe, Cond.selects RX3 yX3_isSafe yX3_isSafe, Cond.code yX3_isSafe cX3_isSafe 1 (some .boolean), Cond.methodLink RX3 58 yX3_weakSet, Cond.methodLink RX4 65 yX4_maySet, Cond.instanceMethod yX4_maySet, Cond.selects RX4 yX4_maySet yX4_maySet, Cond.code yX4_maySet cX4_maySet 3 (some .int), Cond.methodLink RX4 120 yX4_tryStrike, Cond.instanceMethod yX4_tryStrike, Cond.selects RX4 yX4_tryStrike yX4_tryStrike, Cond.code yX4_tryStrike cX4_tryStrike 3 (some .boolean), Cond.fieldLink RX4 16 "StrikePlan" "trial" "LStrikePlan$Tower;"]
def wsX4_told_r3 : List Cond := [Cond.methodLink RX4 68 yX3_has, Cond.instanceMethod yX3_has, Cond.selects RX3 yX3_has yX3_has, Cond.code yX3_has cX3_has 2 (some .boolean), Cond.methodLink RX4 98 yX3_isPropped, Cond.instanceMethod yX3_isPropped, Cond.selects RX3 yX3_isPropped yX3_isPropped, Cond.code yX3_isPropped cX3_isPropped 2 (some .boolean), Cond.fieldLink RX3 34 "StrikePlan$Tower" "props" "I", Cond.methodLink RX4 136 yX3_copyFrom, Cond.instanceMethod yX3_copyFrom, Cond.selects RX3 yX3_copyFrom yX3_copyFrom, Cond.code yX3_copyFrom cX3_copyFrom 3 none, Cond.methodLink RX4 181 yX3_takeProps, Cond.instanceMethod yX3_takeProps, Cond.selects RX3 yX3_takeProps yX3_takeProps, Cond.code yX3_takeProps cX3_takeProps 3 none, Cond.methodLink RX3 75 yX3_has, Cond.methodLink RX3 78 yX3_forceUnder, Cond.instanceMethod yX3_forceUnder, Cond.selects RX3 yX3_forceUnder yX3_forceUnder, Cond.code yX3_forceUnder cX3_forceUnder 5 (some .int), Cond.methodLink RX3 45 yX3_isPropped, Cond.methodLink RX3 52 yX3_highestOf]
def wsX4_told_r4 : List Cond := [Cond.instanceMethod yX3_highestOf, Cond.selects RX3 yX3_highestOf yX3_highestOf, Cond.code yX3_highestOf cX3_highestOf 3 (some .int), Cond.methodLink RX3 71 yX3_shareAmong, Cond.instanceMethod yX3_shareAmong, Cond.selects RX3 yX3_shareAmong yX3_shareAmong, Cond.code yX3_shareAmong cX3_shareAmong 11 none, Cond.fieldLink RX3 24 "StrikePlan$Tower" "part" "[I", Cond.methodLink RX3 81 Lib.Math.min.name, Cond.static Lib.Math.min.name, Cond.initialized "java/lang/Math", Cond.code Lib.Math.min.name Lib.Math.min.code 2 (some .int), Cond.methodLink RX3 62 Lib.Math.max.name, Cond.static Lib.Math.max.name, Cond.code Lib.Math.max.name Lib.Math.max.code 2 (some .int), Cond.methodLink RX3 49 yX3_lowestOf, Cond.instanceMethod yX3_lowestOf, Cond.selects RX3 yX3_lowestOf yX3_lowestOf, Cond.code yX3_lowestOf cX3_lowestOf 3 (some .int), Cond.methodLink RX3 84 yJ7_fill_53178, Cond.static yJ7_fill_53178, Cond.initialized RJ7, Cond.code yJ7_fill_53178 cJ7_fill_53178 4 none, Cond.methodLink RX3 90 yX3_spreadByOnes]
def wsX4_told_r5 : List Cond := [Cond.instanceMethod yX3_spreadByOnes, Cond.selects RX3 yX3_spreadByOnes yX3_spreadByOnes, Cond.code yX3_spreadByOnes cX3_spreadByOnes 7 none, Cond.methodLink RX4 72 yX3_forceUnder, Cond.methodLink RX4 79 yX0_firstWrong, Cond.instanceMethod yX0_firstWrong, Cond.selects RX0 yX0_firstWrong yX0_firstWrong, Cond.initialized RX0, Cond.code yX0_firstWrong cX0_firstWrong 3 (some .int), Cond.fieldLink RX0 18 "StrikePlan$Book" "size" "I", Cond.fieldLink RX0 9 "StrikePlan$Book" "floors" "[I", Cond.fieldLink RX0 28 "StrikePlan$Tower" "load" "[I", Cond.fieldLink RX0 15 "StrikePlan$Book" "loads" "[I", Cond.methodLink RX0 22 yX3_has]
def wsX4_told : List Cond := .code yX4_told cX4_told 2 (some .int) :: ((wsX4_told_r1 ++ (wsX4_told_r2 ++ (wsX4_told_r3 ++ (wsX4_told_r4 ++ wsX4_told_r5)))) ++ wsX40 ++ wsX30 ++ wsX00 ++ wsX20)
def wsX4_earliestFor_r1 : List Cond := [Cond.fieldLink RX4 10 "StrikePlan" "now" "LStrikePlan$Tower;", Cond.methodLink RX4 98 yX3_isPropped, Cond.instanceMethod yX3_isPropped, Cond.selects RX3 yX3_isPropped yX3_isPropped, Cond.initialized RX3, Cond.code yX3_isPropped cX3_isPropped 2 (some .boolean), Cond.fieldLink RX3 34 "StrikePlan$Tower" "props" "I", Cond.methodLink RX4 120 yX4_tryStrike, Cond.instanceMethod yX4_tryStrike, Cond.selects RX4 yX4_tryStrike yX4_tryStrike, Cond.initialized RX4, Cond.code yX4_tryStrike cX4_tryStrike 3 (some .boolean), Cond.fieldLink RX4 16 "StrikePlan" "trial" "LStrikePlan$Tower;", Cond.fieldLink RX4 44 "StrikePlan$Tower" "day" "I", Cond.methodLink RX4 68 yX3_has, Cond.instanceMethod yX3_has, Cond.selects RX3 yX3_has yX3_has, Cond.code yX3_has cX3_has 2 (some .boolean), Cond.fieldLink RX3 31 "StrikePlan$Tower" "count" "I", Cond.methodLink RX4 136 yX3_copyFrom, Cond.instanceMethod yX3_copyFrom, Cond.selects RX3 yX3_copyFrom yX3_copyFrom, Cond.code yX3_copyFrom cX3_copyFrom 3 none, Cond.fieldLink RX3 9 "StrikePlan$Tower" "bounds" "[I"]
def wsX4_earliestFor_r2 : List Cond := [Cond.fieldLink RX3 15 "StrikePlan$Tower" "pouredOn" "[I", Cond.fieldLink RX3 18 "StrikePlan$Tower" "slowness" "[I", Cond.fieldLink RX3 21 "StrikePlan$Tower" "load" "[I", Cond.fieldLink RX3 27 "StrikePlan$Tower" "day" "I", Cond.methodLink RX4 181 yX3_takeProps, Cond.instanceMethod yX3_takeProps, Cond.selects RX3 yX3_takeProps yX3_takeProps, Cond.code yX3_takeProps cX3_takeProps 3 none, Cond.methodLink RX3 75 yX3_has, Cond.methodLink RX3 78 yX3_forceUnder, Cond.instanceMethod yX3_forceUnder, Cond.selects RX3 yX3_forceUnder yX3_forceUnder, Cond.code yX3_forceUnder cX3_forceUnder 5 (some .int), Cond.methodLink RX3 45 yX3_isPropped, Cond.methodLink RX3 52 yX3_highestOf, Cond.instanceMethod yX3_highestOf, Cond.selects RX3 yX3_highestOf yX3_highestOf, Cond.code yX3_highestOf cX3_highestOf 3 (some .int), Cond.methodLink RX3 71 yX3_shareAmong, Cond.instanceMethod yX3_shareAmong, Cond.selects RX3 yX3_shareAmong yX3_shareAmong, Cond.code yX3_shareAmong cX3_shareAmong 11 none, Cond.fieldLink RX3 24 "StrikePlan$Tower" "part" "[I", Cond.methodLink RX3 81 Lib.Math.min.name]
def wsX4_earliestFor_r3 : List Cond := [Cond.static Lib.Math.min.name, Cond.initialized "java/lang/Math", Cond.code Lib.Math.min.name Lib.Math.min.code 2 (some .int), Cond.methodLink RX3 62 Lib.Math.max.name, Cond.static Lib.Math.max.name, Cond.code Lib.Math.max.name Lib.Math.max.code 2 (some .int), Cond.methodLink RX3 49 yX3_lowestOf, Cond.instanceMethod yX3_lowestOf, Cond.selects RX3 yX3_lowestOf yX3_lowestOf, Cond.code yX3_lowestOf cX3_lowestOf 3 (some .int), Cond.methodLink RX3 37 yX3_ageOf, Cond.instanceMethod yX3_ageOf, Cond.selects RX3 yX3_ageOf yX3_ageOf, Cond.code yX3_ageOf cX3_ageOf 2 (some .int), Cond.methodLink RX3 55 yX3_strengthOf, Cond.instanceMethod yX3_strengthOf, Cond.selects RX3 yX3_strengthOf yX3_strengthOf, Cond.code yX3_strengthOf cX3_strengthOf 3 (some .int), Cond.static yX4_percentAt, Cond.code yX4_percentAt cX4_percentAt 5 (some .int), Cond.constantLong RX4 198 (100), Cond.constantLong RX4 200 (4), Cond.methodLink RX3 84 yJ7_fill_53178, Cond.static yJ7_fill_53178]
def wsX4_earliestFor_r4 : List Cond := [Cond.initialized RJ7, Cond.code yJ7_fill_53178 cJ7_fill_53178 4 none, Cond.methodLink RX3 90 yX3_spreadByOnes, Cond.instanceMethod yX3_spreadByOnes, Cond.selects RX3 yX3_spreadByOnes yX3_spreadByOnes, Cond.code yX3_spreadByOnes cX3_spreadByOnes 7 none, Cond.methodLink RX4 61 yX3_isSafe, Cond.instanceMethod yX3_isSafe, Cond.selects RX3 yX3_isSafe yX3_isSafe, Cond.code yX3_isSafe cX3_isSafe 1 (some .boolean), Cond.methodLink RX3 58 yX3_weakSet, Cond.instanceMethod yX3_weakSet, Cond.selects RX3 yX3_weakSet yX3_weakSet, Cond.code yX3_weakSet cX3_weakSet 3 (some .int)]
def wsX4_earliestFor : List Cond := .code yX4_earliestFor cX4_earliestFor 3 (some .int) :: ((wsX4_earliestFor_r1 ++ (wsX4_earliestFor_r2 ++ (wsX4_earliestFor_r3 ++ wsX4_earliestFor_r4))) ++ wsX40 ++ wsX30)
def wsX4_harmOf_r1 : List Cond := [Cond.fieldLink RX4 10 "StrikePlan" "now" "LStrikePlan$Tower;", Cond.fieldLink RX4 16 "StrikePlan" "trial" "LStrikePlan$Tower;", Cond.methodLink RX4 98 yX3_isPropped, Cond.instanceMethod yX3_isPropped, Cond.selects RX3 yX3_isPropped yX3_isPropped, Cond.initialized RX3, Cond.code yX3_isPropped cX3_isPropped 2 (some .boolean), Cond.fieldLink RX3 34 "StrikePlan$Tower" "props" "I", Cond.methodLink RX4 120 yX4_tryStrike, Cond.instanceMethod yX4_tryStrike, Cond.selects RX4 yX4_tryStrike yX4_tryStrike, Cond.initialized RX4, Cond.code yX4_tryStrike cX4_tryStrike 3 (some .boolean), Cond.fieldLink RX4 44 "StrikePlan$Tower" "day" "I", Cond.methodLink RX4 68 yX3_has, Cond.instanceMethod yX3_has, Cond.selects RX3 yX3_has yX3_has, Cond.code yX3_has cX3_has 2 (some .boolean), Cond.fieldLink RX3 31 "StrikePlan$Tower" "count" "I", Cond.methodLink RX4 136 yX3_copyFrom, Cond.instanceMethod yX3_copyFrom, Cond.selects RX3 yX3_copyFrom yX3_copyFrom, Cond.code yX3_copyFrom cX3_copyFrom 3 none, Cond.fieldLink RX3 9 "StrikePlan$Tower" "bounds" "[I"]
def wsX4_harmOf_r2 : List Cond := [Cond.fieldLink RX3 15 "StrikePlan$Tower" "pouredOn" "[I", Cond.fieldLink RX3 18 "StrikePlan$Tower" "slowness" "[I", Cond.fieldLink RX3 21 "StrikePlan$Tower" "load" "[I", Cond.fieldLink RX3 27 "StrikePlan$Tower" "day" "I", Cond.methodLink RX4 181 yX3_takeProps, Cond.instanceMethod yX3_takeProps, Cond.selects RX3 yX3_takeProps yX3_takeProps, Cond.code yX3_takeProps cX3_takeProps 3 none, Cond.methodLink RX3 75 yX3_has, Cond.methodLink RX3 78 yX3_forceUnder, Cond.instanceMethod yX3_forceUnder, Cond.selects RX3 yX3_forceUnder yX3_forceUnder, Cond.code yX3_forceUnder cX3_forceUnder 5 (some .int), Cond.methodLink RX3 45 yX3_isPropped, Cond.methodLink RX3 52 yX3_highestOf, Cond.instanceMethod yX3_highestOf, Cond.selects RX3 yX3_highestOf yX3_highestOf, Cond.code yX3_highestOf cX3_highestOf 3 (some .int), Cond.methodLink RX3 71 yX3_shareAmong, Cond.instanceMethod yX3_shareAmong, Cond.selects RX3 yX3_shareAmong yX3_shareAmong, Cond.code yX3_shareAmong cX3_shareAmong 11 none, Cond.fieldLink RX3 24 "StrikePlan$Tower" "part" "[I", Cond.methodLink RX3 81 Lib.Math.min.name]
def wsX4_harmOf_r3 : List Cond := [Cond.static Lib.Math.min.name, Cond.initialized "java/lang/Math", Cond.code Lib.Math.min.name Lib.Math.min.code 2 (some .int), Cond.methodLink RX3 62 Lib.Math.max.name, Cond.static Lib.Math.max.name, Cond.code Lib.Math.max.name Lib.Math.max.code 2 (some .int), Cond.methodLink RX3 49 yX3_lowestOf, Cond.instanceMethod yX3_lowestOf, Cond.selects RX3 yX3_lowestOf yX3_lowestOf, Cond.code yX3_lowestOf cX3_lowestOf 3 (some .int), Cond.methodLink RX3 37 yX3_ageOf, Cond.instanceMethod yX3_ageOf, Cond.selects RX3 yX3_ageOf yX3_ageOf, Cond.code yX3_ageOf cX3_ageOf 2 (some .int), Cond.methodLink RX3 55 yX3_strengthOf, Cond.instanceMethod yX3_strengthOf, Cond.selects RX3 yX3_strengthOf yX3_strengthOf, Cond.code yX3_strengthOf cX3_strengthOf 3 (some .int), Cond.static yX4_percentAt, Cond.code yX4_percentAt cX4_percentAt 5 (some .int), Cond.constantLong RX4 198 (100), Cond.constantLong RX4 200 (4), Cond.methodLink RX3 84 yJ7_fill_53178, Cond.static yJ7_fill_53178]
def wsX4_harmOf_r4 : List Cond := [Cond.initialized RJ7, Cond.code yJ7_fill_53178 cJ7_fill_53178 4 none, Cond.methodLink RX3 90 yX3_spreadByOnes, Cond.instanceMethod yX3_spreadByOnes, Cond.selects RX3 yX3_spreadByOnes yX3_spreadByOnes, Cond.code yX3_spreadByOnes cX3_spreadByOnes 7 none, Cond.methodLink RX4 61 yX3_isSafe, Cond.instanceMethod yX3_isSafe, Cond.selects RX3 yX3_isSafe yX3_isSafe, Cond.code yX3_isSafe cX3_isSafe 1 (some .boolean), Cond.methodLink RX3 58 yX3_weakSet, Cond.instanceMethod yX3_weakSet, Cond.selects RX3 yX3_weakSet yX3_weakSet, Cond.code yX3_weakSet cX3_weakSet 3 (some .int), Cond.methodLink RX4 184 yX3_greatestExcess, Cond.instanceMethod yX3_greatestExcess, Cond.selects RX3 yX3_greatestExcess yX3_greatestExcess, Cond.code yX3_greatestExcess cX3_greatestExcess 3 (some .int)]
def wsX4_harmOf : List Cond := .code yX4_harmOf cX4_harmOf 2 (some .int) :: ((wsX4_harmOf_r1 ++ (wsX4_harmOf_r2 ++ (wsX4_harmOf_r3 ++ wsX4_harmOf_r4))) ++ wsX40 ++ wsX30)
def wsX4_floor_r1 : List Cond := [Cond.fieldLink RX4 10 "StrikePlan" "now" "LStrikePlan$Tower;", Cond.constant RX4 85 (-1000000001), Cond.fieldLink RX4 89 "StrikePlan$Tower" "slowness" "[I", Cond.fieldLink RX4 95 "StrikePlan$Tower" "load" "[I", Cond.constant RX4 84 (-1000000002), Cond.methodLink RX4 68 yX3_has, Cond.instanceMethod yX3_has, Cond.selects RX3 yX3_has yX3_has, Cond.initialized RX3, Cond.code yX3_has cX3_has 2 (some .boolean), Cond.fieldLink RX3 31 "StrikePlan$Tower" "count" "I", Cond.methodLink RX4 86 yX3_ageOf, Cond.instanceMethod yX3_ageOf, Cond.selects RX3 yX3_ageOf yX3_ageOf, Cond.code yX3_ageOf cX3_ageOf 2 (some .int), Cond.fieldLink RX3 27 "StrikePlan$Tower" "day" "I", Cond.fieldLink RX3 15 "StrikePlan$Tower" "pouredOn" "[I", Cond.methodLink RX4 92 yX3_strengthOf, Cond.instanceMethod yX3_strengthOf, Cond.selects RX3 yX3_strengthOf yX3_strengthOf, Cond.code yX3_strengthOf cX3_strengthOf 3 (some .int), Cond.fieldLink RX3 18 "StrikePlan$Tower" "slowness" "[I", Cond.fieldLink RX3 9 "StrikePlan$Tower" "bounds" "[I", Cond.methodLink RX3 37 yX3_ageOf]
def wsX4_floor_r2 : List Cond := [Cond.static yX4_percentAt, Cond.initialized RX4, Cond.code yX4_percentAt cX4_percentAt 5 (some .int), Cond.constantLong RX4 198 (100), Cond.constantLong RX4 200 (4), Cond.methodLink RX4 98 yX3_isPropped, Cond.instanceMethod yX3_isPropped, Cond.selects RX3 yX3_isPropped yX3_isPropped, Cond.code yX3_isPropped cX3_isPropped 2 (some .boolean), Cond.fieldLink RX3 34 "StrikePlan$Tower" "props" "I", Cond.methodLink RX4 72 yX3_forceUnder, Cond.instanceMethod yX3_forceUnder, Cond.selects RX3 yX3_forceUnder yX3_forceUnder, Cond.code yX3_forceUnder cX3_forceUnder 5 (some .int), Cond.fieldLink RX3 21 "StrikePlan$Tower" "load" "[I", Cond.methodLink RX3 45 yX3_isPropped, Cond.methodLink RX3 52 yX3_highestOf, Cond.instanceMethod yX3_highestOf, Cond.selects RX3 yX3_highestOf yX3_highestOf, Cond.code yX3_highestOf cX3_highestOf 3 (some .int), Cond.methodLink RX4 101 yX3_lowestOf, Cond.instanceMethod yX3_lowestOf, Cond.selects RX3 yX3_lowestOf yX3_lowestOf, Cond.code yX3_lowestOf cX3_lowestOf 3 (some .int)]
def wsX4_floor_r3 : List Cond := [Cond.methodLink RX4 104 yX3_highestOf, Cond.methodLink RX4 107 yX3_isGrounded, Cond.instanceMethod yX3_isGrounded, Cond.selects RX3 yX3_isGrounded yX3_isGrounded, Cond.code yX3_isGrounded cX3_isGrounded 2 (some .boolean), Cond.methodLink RX3 49 yX3_lowestOf, Cond.methodLink RX4 110 yX4_earliestFor, Cond.instanceMethod yX4_earliestFor, Cond.selects RX4 yX4_earliestFor yX4_earliestFor, Cond.code yX4_earliestFor cX4_earliestFor 3 (some .int), Cond.methodLink RX4 120 yX4_tryStrike, Cond.instanceMethod yX4_tryStrike, Cond.selects RX4 yX4_tryStrike yX4_tryStrike, Cond.code yX4_tryStrike cX4_tryStrike 3 (some .boolean), Cond.fieldLink RX4 16 "StrikePlan" "trial" "LStrikePlan$Tower;", Cond.fieldLink RX4 44 "StrikePlan$Tower" "day" "I", Cond.methodLink RX4 136 yX3_copyFrom, Cond.instanceMethod yX3_copyFrom, Cond.selects RX3 yX3_copyFrom yX3_copyFrom, Cond.code yX3_copyFrom cX3_copyFrom 3 none, Cond.methodLink RX4 181 yX3_takeProps, Cond.instanceMethod yX3_takeProps, Cond.selects RX3 yX3_takeProps yX3_takeProps, Cond.code yX3_takeProps cX3_takeProps 3 none]
def wsX4_floor_r4 : List Cond := [Cond.methodLink RX3 75 yX3_has, Cond.methodLink RX3 78 yX3_forceUnder, Cond.methodLink RX3 71 yX3_shareAmong, Cond.instanceMethod yX3_shareAmong, Cond.selects RX3 yX3_shareAmong yX3_shareAmong, Cond.code yX3_shareAmong cX3_shareAmong 11 none, Cond.fieldLink RX3 24 "StrikePlan$Tower" "part" "[I", Cond.methodLink RX3 81 Lib.Math.min.name, Cond.static Lib.Math.min.name, Cond.initialized "java/lang/Math", Cond.code Lib.Math.min.name Lib.Math.min.code 2 (some .int), Cond.methodLink RX3 62 Lib.Math.max.name, Cond.static Lib.Math.max.name, Cond.code Lib.Math.max.name Lib.Math.max.code 2 (some .int), Cond.methodLink RX3 55 yX3_strengthOf, Cond.methodLink RX3 84 yJ7_fill_53178, Cond.static yJ7_fill_53178, Cond.initialized RJ7, Cond.code yJ7_fill_53178 cJ7_fill_53178 4 none, Cond.methodLink RX3 90 yX3_spreadByOnes, Cond.instanceMethod yX3_spreadByOnes, Cond.selects RX3 yX3_spreadByOnes yX3_spreadByOnes, Cond.code yX3_spreadByOnes cX3_spreadByOnes 7 none, Cond.methodLink RX4 61 yX3_isSafe]
def wsX4_floor_r5 : List Cond := [Cond.instanceMethod yX3_isSafe, Cond.selects RX3 yX3_isSafe yX3_isSafe, Cond.code yX3_isSafe cX3_isSafe 1 (some .boolean), Cond.methodLink RX3 58 yX3_weakSet, Cond.instanceMethod yX3_weakSet, Cond.selects RX3 yX3_weakSet yX3_weakSet, Cond.code yX3_weakSet cX3_weakSet 3 (some .int), Cond.methodLink RX4 113 yX4_harmOf, Cond.instanceMethod yX4_harmOf, Cond.selects RX4 yX4_harmOf yX4_harmOf, Cond.code yX4_harmOf cX4_harmOf 2 (some .int), Cond.methodLink RX4 184 yX3_greatestExcess, Cond.instanceMethod yX3_greatestExcess, Cond.selects RX3 yX3_greatestExcess yX3_greatestExcess, Cond.code yX3_greatestExcess cX3_greatestExcess 3 (some .int)]
def wsX4_floor : List Cond := .code yX4_floor cX4_floor 3 (some .int) :: ((wsX4_floor_r1 ++ (wsX4_floor_r2 ++ (wsX4_floor_r3 ++ (wsX4_floor_r4 ++ wsX4_floor_r5)))) ++ wsX40 ++ wsX30)
def wsX4_hundredths : List Cond := .code yX4_hundredths cX4_hundredths 3 (some .int) :: ([.constant RX4 84 (-1000000002), .methodLink RX4 116 yX4_percentAt, .static yX4_percentAt, .initialized RX4, .code yX4_percentAt cX4_percentAt 5 (some .int), .constantLong RX4 198 (100), .constantLong RX4 200 (4)])
def wsX4_would_r1 : List Cond := [Cond.fieldLink RX4 10 "StrikePlan" "now" "LStrikePlan$Tower;", Cond.constant RX4 85 (-1000000001), Cond.fieldLink RX4 16 "StrikePlan" "trial" "LStrikePlan$Tower;", Cond.fieldLink RX4 95 "StrikePlan$Tower" "load" "[I", Cond.methodLink RX4 68 yX3_has, Cond.instanceMethod yX3_has, Cond.selects RX3 yX3_has yX3_has, Cond.initialized RX3, Cond.code yX3_has cX3_has 2 (some .boolean), Cond.fieldLink RX3 31 "StrikePlan$Tower" "count" "I", Cond.methodLink RX4 98 yX3_isPropped, Cond.instanceMethod yX3_isPropped, Cond.selects RX3 yX3_isPropped yX3_isPropped, Cond.code yX3_isPropped cX3_isPropped 2 (some .boolean), Cond.fieldLink RX3 34 "StrikePlan$Tower" "props" "I", Cond.methodLink RX4 120 yX4_tryStrike, Cond.instanceMethod yX4_tryStrike, Cond.selects RX4 yX4_tryStrike yX4_tryStrike, Cond.initialized RX4, Cond.code yX4_tryStrike cX4_tryStrike 3 (some .boolean), Cond.fieldLink RX4 44 "StrikePlan$Tower" "day" "I", Cond.methodLink RX4 136 yX3_copyFrom, Cond.instanceMethod yX3_copyFrom, Cond.selects RX3 yX3_copyFrom yX3_copyFrom]
def wsX4_would_r2 : List Cond := [Cond.code yX3_copyFrom cX3_copyFrom 3 none, Cond.fieldLink RX3 9 "StrikePlan$Tower" "bounds" "[I", Cond.fieldLink RX3 15 "StrikePlan$Tower" "pouredOn" "[I", Cond.fieldLink RX3 18 "StrikePlan$Tower" "slowness" "[I", Cond.fieldLink RX3 21 "StrikePlan$Tower" "load" "[I", Cond.fieldLink RX3 27 "StrikePlan$Tower" "day" "I", Cond.methodLink RX4 181 yX3_takeProps, Cond.instanceMethod yX3_takeProps, Cond.selects RX3 yX3_takeProps yX3_takeProps, Cond.code yX3_takeProps cX3_takeProps 3 none, Cond.methodLink RX3 75 yX3_has, Cond.methodLink RX3 78 yX3_forceUnder, Cond.instanceMethod yX3_forceUnder, Cond.selects RX3 yX3_forceUnder yX3_forceUnder, Cond.code yX3_forceUnder cX3_forceUnder 5 (some .int), Cond.methodLink RX3 45 yX3_isPropped, Cond.methodLink RX3 52 yX3_highestOf, Cond.instanceMethod yX3_highestOf, Cond.selects RX3 yX3_highestOf yX3_highestOf, Cond.code yX3_highestOf cX3_highestOf 3 (some .int), Cond.methodLink RX3 71 yX3_shareAmong, Cond.instanceMethod yX3_shareAmong, Cond.selects RX3 yX3_shareAmong yX3_shareAmong, Cond.code yX3_shareAmong cX3_shareAmong 11 none]
def wsX4_would_r3 : List Cond := [Cond.fieldLink RX3 24 "StrikePlan$Tower" "part" "[I", Cond.methodLink RX3 81 Lib.Math.min.name, Cond.static Lib.Math.min.name, Cond.initialized "java/lang/Math", Cond.code Lib.Math.min.name Lib.Math.min.code 2 (some .int), Cond.methodLink RX3 62 Lib.Math.max.name, Cond.static Lib.Math.max.name, Cond.code Lib.Math.max.name Lib.Math.max.code 2 (some .int), Cond.methodLink RX3 49 yX3_lowestOf, Cond.instanceMethod yX3_lowestOf, Cond.selects RX3 yX3_lowestOf yX3_lowestOf, Cond.code yX3_lowestOf cX3_lowestOf 3 (some .int), Cond.methodLink RX3 37 yX3_ageOf, Cond.instanceMethod yX3_ageOf, Cond.selects RX3 yX3_ageOf yX3_ageOf, Cond.code yX3_ageOf cX3_ageOf 2 (some .int), Cond.methodLink RX3 55 yX3_strengthOf, Cond.instanceMethod yX3_strengthOf, Cond.selects RX3 yX3_strengthOf yX3_strengthOf, Cond.code yX3_strengthOf cX3_strengthOf 3 (some .int), Cond.static yX4_percentAt, Cond.code yX4_percentAt cX4_percentAt 5 (some .int), Cond.constantLong RX4 198 (100), Cond.constantLong RX4 200 (4)]
def wsX4_would_r4 : List Cond := [Cond.methodLink RX3 84 yJ7_fill_53178, Cond.static yJ7_fill_53178, Cond.initialized RJ7, Cond.code yJ7_fill_53178 cJ7_fill_53178 4 none, Cond.methodLink RX3 90 yX3_spreadByOnes, Cond.instanceMethod yX3_spreadByOnes, Cond.selects RX3 yX3_spreadByOnes yX3_spreadByOnes, Cond.code yX3_spreadByOnes cX3_spreadByOnes 7 none, Cond.methodLink RX4 61 yX3_isSafe, Cond.instanceMethod yX3_isSafe, Cond.selects RX3 yX3_isSafe yX3_isSafe, Cond.code yX3_isSafe cX3_isSafe 1 (some .boolean), Cond.methodLink RX3 58 yX3_weakSet, Cond.instanceMethod yX3_weakSet, Cond.selects RX3 yX3_weakSet yX3_weakSet, Cond.code yX3_weakSet cX3_weakSet 3 (some .int)]
def wsX4_would : List Cond := .code yX4_would cX4_would 3 (some .int) :: ((wsX4_would_r1 ++ (wsX4_would_r2 ++ (wsX4_would_r3 ++ wsX4_would_r4))) ++ wsX40 ++ wsX30)
def wsJ6_bitCount_0f7a4 : List Cond := .code yJ6_bitCount_0f7a4 cJ6_bitCount_0f7a4 1 (some .int) :: ([.constant RJ6 265 (1431655765), .constant RJ6 266 (858993459), .constant RJ6 267 (252645135)])
def wsX4_cycleHolds_r1 : List Cond := [Cond.fieldLink RX4 16 "StrikePlan" "trial" "LStrikePlan$Tower;", Cond.fieldLink RX4 10 "StrikePlan" "now" "LStrikePlan$Tower;", Cond.fieldLink RX4 44 "StrikePlan$Tower" "day" "I", Cond.fieldLink RX4 54 "StrikePlan$Tower" "props" "I", Cond.methodLink RX4 136 yX3_copyFrom, Cond.instanceMethod yX3_copyFrom, Cond.selects RX3 yX3_copyFrom yX3_copyFrom, Cond.initialized RX3, Cond.code yX3_copyFrom cX3_copyFrom 3 none, Cond.fieldLink RX3 9 "StrikePlan$Tower" "bounds" "[I", Cond.fieldLink RX3 31 "StrikePlan$Tower" "count" "I", Cond.fieldLink RX3 15 "StrikePlan$Tower" "pouredOn" "[I", Cond.fieldLink RX3 18 "StrikePlan$Tower" "slowness" "[I", Cond.fieldLink RX3 21 "StrikePlan$Tower" "load" "[I", Cond.fieldLink RX3 27 "StrikePlan$Tower" "day" "I", Cond.fieldLink RX3 34 "StrikePlan$Tower" "props" "I", Cond.methodLink RX4 149 yX3_empty, Cond.instanceMethod yX3_empty, Cond.selects RX3 yX3_empty yX3_empty, Cond.code yX3_empty cX3_empty 1 none, Cond.methodLink RX4 187 yJ6_bitCount_0f7a4, Cond.static yJ6_bitCount_0f7a4, Cond.initialized RJ6, Cond.code yJ6_bitCount_0f7a4 cJ6_bitCount_0f7a4 1 (some .int)]
def wsX4_cycleHolds_r2 : List Cond := [Cond.constant RJ6 265 (1431655765), Cond.constant RJ6 266 (858993459), Cond.constant RJ6 267 (252645135), Cond.methodLink RX4 192 yX3_lowestPropped, Cond.instanceMethod yX3_lowestPropped, Cond.selects RX3 yX3_lowestPropped yX3_lowestPropped, Cond.code yX3_lowestPropped cX3_lowestPropped 2 (some .int), Cond.methodLink RX3 45 yX3_isPropped, Cond.instanceMethod yX3_isPropped, Cond.selects RX3 yX3_isPropped yX3_isPropped, Cond.code yX3_isPropped cX3_isPropped 2 (some .boolean), Cond.methodLink RX4 181 yX3_takeProps, Cond.instanceMethod yX3_takeProps, Cond.selects RX3 yX3_takeProps yX3_takeProps, Cond.code yX3_takeProps cX3_takeProps 3 none, Cond.methodLink RX3 75 yX3_has, Cond.instanceMethod yX3_has, Cond.selects RX3 yX3_has yX3_has, Cond.code yX3_has cX3_has 2 (some .boolean), Cond.methodLink RX3 78 yX3_forceUnder, Cond.instanceMethod yX3_forceUnder, Cond.selects RX3 yX3_forceUnder yX3_forceUnder, Cond.code yX3_forceUnder cX3_forceUnder 5 (some .int), Cond.methodLink RX3 52 yX3_highestOf]
def wsX4_cycleHolds_r3 : List Cond := [Cond.instanceMethod yX3_highestOf, Cond.selects RX3 yX3_highestOf yX3_highestOf, Cond.code yX3_highestOf cX3_highestOf 3 (some .int), Cond.methodLink RX3 71 yX3_shareAmong, Cond.instanceMethod yX3_shareAmong, Cond.selects RX3 yX3_shareAmong yX3_shareAmong, Cond.code yX3_shareAmong cX3_shareAmong 11 none, Cond.fieldLink RX3 24 "StrikePlan$Tower" "part" "[I", Cond.methodLink RX3 81 Lib.Math.min.name, Cond.static Lib.Math.min.name, Cond.initialized "java/lang/Math", Cond.code Lib.Math.min.name Lib.Math.min.code 2 (some .int), Cond.methodLink RX3 62 Lib.Math.max.name, Cond.static Lib.Math.max.name, Cond.code Lib.Math.max.name Lib.Math.max.code 2 (some .int), Cond.methodLink RX3 49 yX3_lowestOf, Cond.instanceMethod yX3_lowestOf, Cond.selects RX3 yX3_lowestOf yX3_lowestOf, Cond.code yX3_lowestOf cX3_lowestOf 3 (some .int), Cond.methodLink RX3 37 yX3_ageOf, Cond.instanceMethod yX3_ageOf, Cond.selects RX3 yX3_ageOf yX3_ageOf, Cond.code yX3_ageOf cX3_ageOf 2 (some .int), Cond.methodLink RX3 55 yX3_strengthOf]
def wsX4_cycleHolds_r4 : List Cond := [Cond.instanceMethod yX3_strengthOf, Cond.selects RX3 yX3_strengthOf yX3_strengthOf, Cond.code yX3_strengthOf cX3_strengthOf 3 (some .int), Cond.static yX4_percentAt, Cond.initialized RX4, Cond.code yX4_percentAt cX4_percentAt 5 (some .int), Cond.constantLong RX4 198 (100), Cond.constantLong RX4 200 (4), Cond.methodLink RX3 84 yJ7_fill_53178, Cond.static yJ7_fill_53178, Cond.initialized RJ7, Cond.code yJ7_fill_53178 cJ7_fill_53178 4 none, Cond.methodLink RX3 90 yX3_spreadByOnes, Cond.instanceMethod yX3_spreadByOnes, Cond.selects RX3 yX3_spreadByOnes yX3_spreadByOnes, Cond.code yX3_spreadByOnes cX3_spreadByOnes 7 none, Cond.methodLink RX4 61 yX3_isSafe, Cond.instanceMethod yX3_isSafe, Cond.selects RX3 yX3_isSafe yX3_isSafe, Cond.code yX3_isSafe cX3_isSafe 1 (some .boolean), Cond.methodLink RX3 58 yX3_weakSet, Cond.instanceMethod yX3_weakSet, Cond.selects RX3 yX3_weakSet yX3_weakSet, Cond.code yX3_weakSet cX3_weakSet 3 (some .int)]
def wsX4_cycleHolds_r5 : List Cond := [Cond.methodLink RX4 178 yX3_addFloor, Cond.instanceMethod yX3_addFloor, Cond.selects RX3 yX3_addFloor yX3_addFloor, Cond.code yX3_addFloor cX3_addFloor 2 none, Cond.methodLink RX3 67 yX3_putProps, Cond.instanceMethod yX3_putProps, Cond.selects RX3 yX3_putProps yX3_putProps, Cond.code yX3_putProps cX3_putProps 2 none]
def wsX4_cycleHolds : List Cond := .code yX4_cycleHolds cX4_cycleHolds 4 (some .boolean) :: ((wsX4_cycleHolds_r1 ++ (wsX4_cycleHolds_r2 ++ (wsX4_cycleHolds_r3 ++ (wsX4_cycleHolds_r4 ++ wsX4_cycleHolds_r5)))) ++ wsX40 ++ wsX30)
def wsX4_cycle_r1 : List Cond := [Cond.constant RX4 84 (-1000000002), Cond.methodLink RX4 124 yX4_cycleHolds, Cond.instanceMethod yX4_cycleHolds, Cond.selects RX4 yX4_cycleHolds yX4_cycleHolds, Cond.initialized RX4, Cond.code yX4_cycleHolds cX4_cycleHolds 4 (some .boolean), Cond.fieldLink RX4 16 "StrikePlan" "trial" "LStrikePlan$Tower;", Cond.fieldLink RX4 10 "StrikePlan" "now" "LStrikePlan$Tower;", Cond.fieldLink RX4 44 "StrikePlan$Tower" "day" "I", Cond.fieldLink RX4 54 "StrikePlan$Tower" "props" "I", Cond.methodLink RX4 136 yX3_copyFrom, Cond.instanceMethod yX3_copyFrom, Cond.selects RX3 yX3_copyFrom yX3_copyFrom, Cond.initialized RX3, Cond.code yX3_copyFrom cX3_copyFrom 3 none, Cond.fieldLink RX3 9 "StrikePlan$Tower" "bounds" "[I", Cond.fieldLink RX3 31 "StrikePlan$Tower" "count" "I", Cond.fieldLink RX3 15 "StrikePlan$Tower" "pouredOn" "[I", Cond.fieldLink RX3 18 "StrikePlan$Tower" "slowness" "[I", Cond.fieldLink RX3 21 "StrikePlan$Tower" "load" "[I", Cond.fieldLink RX3 27 "StrikePlan$Tower" "day" "I", Cond.fieldLink RX3 34 "StrikePlan$Tower" "props" "I", Cond.methodLink RX4 149 yX3_empty, Cond.instanceMethod yX3_empty]
def wsX4_cycle_r2 : List Cond := [Cond.selects RX3 yX3_empty yX3_empty, Cond.code yX3_empty cX3_empty 1 none, Cond.methodLink RX4 187 yJ6_bitCount_0f7a4, Cond.static yJ6_bitCount_0f7a4, Cond.initialized RJ6, Cond.code yJ6_bitCount_0f7a4 cJ6_bitCount_0f7a4 1 (some .int), Cond.constant RJ6 265 (1431655765), Cond.constant RJ6 266 (858993459), Cond.constant RJ6 267 (252645135), Cond.methodLink RX4 192 yX3_lowestPropped, Cond.instanceMethod yX3_lowestPropped, Cond.selects RX3 yX3_lowestPropped yX3_lowestPropped, Cond.code yX3_lowestPropped cX3_lowestPropped 2 (some .int), Cond.methodLink RX3 45 yX3_isPropped, Cond.instanceMethod yX3_isPropped, Cond.selects RX3 yX3_isPropped yX3_isPropped, Cond.code yX3_isPropped cX3_isPropped 2 (some .boolean), Cond.methodLink RX4 181 yX3_takeProps, Cond.instanceMethod yX3_takeProps, Cond.selects RX3 yX3_takeProps yX3_takeProps, Cond.code yX3_takeProps cX3_takeProps 3 none, Cond.methodLink RX3 75 yX3_has, Cond.instanceMethod yX3_has, Cond.selects RX3 yX3_has yX3_has]
def wsX4_cycle_r3 : List Cond := [Cond.code yX3_has cX3_has 2 (some .boolean), Cond.methodLink RX3 78 yX3_forceUnder, Cond.instanceMethod yX3_forceUnder, Cond.selects RX3 yX3_forceUnder yX3_forceUnder, Cond.code yX3_forceUnder cX3_forceUnder 5 (some .int), Cond.methodLink RX3 52 yX3_highestOf, Cond.instanceMethod yX3_highestOf, Cond.selects RX3 yX3_highestOf yX3_highestOf, Cond.code yX3_highestOf cX3_highestOf 3 (some .int), Cond.methodLink RX3 71 yX3_shareAmong, Cond.instanceMethod yX3_shareAmong, Cond.selects RX3 yX3_shareAmong yX3_shareAmong, Cond.code yX3_shareAmong cX3_shareAmong 11 none, Cond.fieldLink RX3 24 "StrikePlan$Tower" "part" "[I", Cond.methodLink RX3 81 Lib.Math.min.name, Cond.static Lib.Math.min.name, Cond.initialized "java/lang/Math", Cond.code Lib.Math.min.name Lib.Math.min.code 2 (some .int), Cond.methodLink RX3 62 Lib.Math.max.name, Cond.static Lib.Math.max.name, Cond.code Lib.Math.max.name Lib.Math.max.code 2 (some .int), Cond.methodLink RX3 49 yX3_lowestOf, Cond.instanceMethod yX3_lowestOf, Cond.selects RX3 yX3_lowestOf yX3_lowestOf]
def wsX4_cycle_r4 : List Cond := [Cond.code yX3_lowestOf cX3_lowestOf 3 (some .int), Cond.methodLink RX3 37 yX3_ageOf, Cond.instanceMethod yX3_ageOf, Cond.selects RX3 yX3_ageOf yX3_ageOf, Cond.code yX3_ageOf cX3_ageOf 2 (some .int), Cond.methodLink RX3 55 yX3_strengthOf, Cond.instanceMethod yX3_strengthOf, Cond.selects RX3 yX3_strengthOf yX3_strengthOf, Cond.code yX3_strengthOf cX3_strengthOf 3 (some .int), Cond.static yX4_percentAt, Cond.code yX4_percentAt cX4_percentAt 5 (some .int), Cond.constantLong RX4 198 (100), Cond.constantLong RX4 200 (4), Cond.methodLink RX3 84 yJ7_fill_53178, Cond.static yJ7_fill_53178, Cond.initialized RJ7, Cond.code yJ7_fill_53178 cJ7_fill_53178 4 none, Cond.methodLink RX3 90 yX3_spreadByOnes, Cond.instanceMethod yX3_spreadByOnes, Cond.selects RX3 yX3_spreadByOnes yX3_spreadByOnes, Cond.code yX3_spreadByOnes cX3_spreadByOnes 7 none, Cond.methodLink RX4 61 yX3_isSafe, Cond.instanceMethod yX3_isSafe, Cond.selects RX3 yX3_isSafe yX3_isSafe]
def wsX4_cycle_r5 : List Cond := [Cond.code yX3_isSafe cX3_isSafe 1 (some .boolean), Cond.methodLink RX3 58 yX3_weakSet, Cond.instanceMethod yX3_weakSet, Cond.selects RX3 yX3_weakSet yX3_weakSet, Cond.code yX3_weakSet cX3_weakSet 3 (some .int), Cond.methodLink RX4 178 yX3_addFloor, Cond.instanceMethod yX3_addFloor, Cond.selects RX3 yX3_addFloor yX3_addFloor, Cond.code yX3_addFloor cX3_addFloor 2 none, Cond.methodLink RX3 67 yX3_putProps, Cond.instanceMethod yX3_putProps, Cond.selects RX3 yX3_putProps yX3_putProps, Cond.code yX3_putProps cX3_putProps 2 none]
def wsX4_cycle : List Cond := .code yX4_cycle cX4_cycle 3 (some .int) :: ((wsX4_cycle_r1 ++ (wsX4_cycle_r2 ++ (wsX4_cycle_r3 ++ (wsX4_cycle_r4 ++ wsX4_cycle_r5)))) ++ wsX40 ++ wsX30)
def wsX4_days_r1 : List Cond := [Cond.constant RX4 84 (-1000000002), Cond.fieldLink RX4 22 "StrikePlan" "past" "LStrikePlan$Past;", Cond.fieldLink RX4 10 "StrikePlan" "now" "LStrikePlan$Tower;", Cond.fieldLink RX4 44 "StrikePlan$Tower" "day" "I", Cond.methodLink RX4 127 yX2_note, Cond.instanceMethod yX2_note, Cond.selects RX2 yX2_note yX2_note, Cond.initialized RX2, Cond.code yX2_note cX2_note 2 none, Cond.fieldLink RX2 11 "StrikePlan$Past" "ring" "[LStrikePlan$Tower;", Cond.fieldLink RX2 17 "StrikePlan$Past" "next" "I", Cond.fieldLink RX2 21 "StrikePlan$Past" "size" "I", Cond.methodLink RX2 29 Lib.Math.min.name, Cond.static Lib.Math.min.name, Cond.initialized "java/lang/Math", Cond.code Lib.Math.min.name Lib.Math.min.code 2 (some .int), Cond.methodLink RX2 25 yX3_copyFrom, Cond.instanceMethod yX3_copyFrom, Cond.selects RX3 yX3_copyFrom yX3_copyFrom, Cond.initialized RX3, Cond.code yX3_copyFrom cX3_copyFrom 3 none, Cond.fieldLink RX3 9 "StrikePlan$Tower" "bounds" "[I", Cond.fieldLink RX3 31 "StrikePlan$Tower" "count" "I", Cond.fieldLink RX3 15 "StrikePlan$Tower" "pouredOn" "[I"]
def wsX4_days_r2 : List Cond := [Cond.fieldLink RX3 18 "StrikePlan$Tower" "slowness" "[I", Cond.fieldLink RX3 21 "StrikePlan$Tower" "load" "[I", Cond.fieldLink RX3 27 "StrikePlan$Tower" "day" "I", Cond.fieldLink RX3 34 "StrikePlan$Tower" "props" "I"]
def wsX4_days : List Cond := .code yX4_days cX4_days 2 (some .int) :: ((wsX4_days_r1 ++ wsX4_days_r2) ++ wsX40 ++ wsX30 ++ wsX20)
def wsX4_tryPour_r1 : List Cond := [Cond.fieldLink RX4 10 "StrikePlan" "now" "LStrikePlan$Tower;", Cond.fieldLink RX4 47 "StrikePlan$Tower" "count" "I", Cond.fieldLink RX4 16 "StrikePlan" "trial" "LStrikePlan$Tower;", Cond.methodLink RX4 136 yX3_copyFrom, Cond.instanceMethod yX3_copyFrom, Cond.selects RX3 yX3_copyFrom yX3_copyFrom, Cond.initialized RX3, Cond.code yX3_copyFrom cX3_copyFrom 3 none, Cond.fieldLink RX3 9 "StrikePlan$Tower" "bounds" "[I", Cond.fieldLink RX3 31 "StrikePlan$Tower" "count" "I", Cond.fieldLink RX3 15 "StrikePlan$Tower" "pouredOn" "[I", Cond.fieldLink RX3 18 "StrikePlan$Tower" "slowness" "[I", Cond.fieldLink RX3 21 "StrikePlan$Tower" "load" "[I", Cond.fieldLink RX3 27 "StrikePlan$Tower" "day" "I", Cond.fieldLink RX3 34 "StrikePlan$Tower" "props" "I", Cond.methodLink RX4 178 yX3_addFloor, Cond.instanceMethod yX3_addFloor, Cond.selects RX3 yX3_addFloor yX3_addFloor, Cond.code yX3_addFloor cX3_addFloor 2 none, Cond.methodLink RX3 67 yX3_putProps, Cond.instanceMethod yX3_putProps, Cond.selects RX3 yX3_putProps yX3_putProps, Cond.code yX3_putProps cX3_putProps 2 none, Cond.methodLink RX3 71 yX3_shareAmong]
def wsX4_tryPour_r2 : List Cond := [Cond.instanceMethod yX3_shareAmong, Cond.selects RX3 yX3_shareAmong yX3_shareAmong, Cond.code yX3_shareAmong cX3_shareAmong 11 none, Cond.fieldLink RX3 24 "StrikePlan$Tower" "part" "[I", Cond.methodLink RX3 81 Lib.Math.min.name, Cond.static Lib.Math.min.name, Cond.initialized "java/lang/Math", Cond.code Lib.Math.min.name Lib.Math.min.code 2 (some .int), Cond.methodLink RX3 62 Lib.Math.max.name, Cond.static Lib.Math.max.name, Cond.code Lib.Math.max.name Lib.Math.max.code 2 (some .int), Cond.methodLink RX3 49 yX3_lowestOf, Cond.instanceMethod yX3_lowestOf, Cond.selects RX3 yX3_lowestOf yX3_lowestOf, Cond.code yX3_lowestOf cX3_lowestOf 3 (some .int), Cond.methodLink RX3 45 yX3_isPropped, Cond.instanceMethod yX3_isPropped, Cond.selects RX3 yX3_isPropped yX3_isPropped, Cond.code yX3_isPropped cX3_isPropped 2 (some .boolean), Cond.methodLink RX3 52 yX3_highestOf, Cond.instanceMethod yX3_highestOf, Cond.selects RX3 yX3_highestOf yX3_highestOf, Cond.code yX3_highestOf cX3_highestOf 3 (some .int), Cond.methodLink RX3 37 yX3_ageOf]
def wsX4_tryPour_r3 : List Cond := [Cond.instanceMethod yX3_ageOf, Cond.selects RX3 yX3_ageOf yX3_ageOf, Cond.code yX3_ageOf cX3_ageOf 2 (some .int), Cond.methodLink RX3 55 yX3_strengthOf, Cond.instanceMethod yX3_strengthOf, Cond.selects RX3 yX3_strengthOf yX3_strengthOf, Cond.code yX3_strengthOf cX3_strengthOf 3 (some .int), Cond.static yX4_percentAt, Cond.initialized RX4, Cond.code yX4_percentAt cX4_percentAt 5 (some .int), Cond.constantLong RX4 198 (100), Cond.constantLong RX4 200 (4), Cond.methodLink RX3 84 yJ7_fill_53178, Cond.static yJ7_fill_53178, Cond.initialized RJ7, Cond.code yJ7_fill_53178 cJ7_fill_53178 4 none, Cond.methodLink RX3 90 yX3_spreadByOnes, Cond.instanceMethod yX3_spreadByOnes, Cond.selects RX3 yX3_spreadByOnes yX3_spreadByOnes, Cond.code yX3_spreadByOnes cX3_spreadByOnes 7 none, Cond.methodLink RX4 61 yX3_isSafe, Cond.instanceMethod yX3_isSafe, Cond.selects RX3 yX3_isSafe yX3_isSafe, Cond.code yX3_isSafe cX3_isSafe 1 (some .boolean)]
def wsX4_tryPour_r4 : List Cond := [Cond.methodLink RX3 58 yX3_weakSet, Cond.instanceMethod yX3_weakSet, Cond.selects RX3 yX3_weakSet yX3_weakSet, Cond.code yX3_weakSet cX3_weakSet 3 (some .int)]
def wsX4_tryPour : List Cond := .code yX4_tryPour cX4_tryPour 1 (some .boolean) :: ((wsX4_tryPour_r1 ++ (wsX4_tryPour_r2 ++ (wsX4_tryPour_r3 ++ wsX4_tryPour_r4))) ++ wsX40 ++ wsX30)
def wsX4_pour_r1 : List Cond := [Cond.fieldLink RX4 10 "StrikePlan" "now" "LStrikePlan$Tower;", Cond.fieldLink RX4 47 "StrikePlan$Tower" "count" "I", Cond.constant RX4 131 (-1000000004), Cond.constant RX4 135 (-1000000003), Cond.fieldLink RX4 22 "StrikePlan" "past" "LStrikePlan$Past;", Cond.fieldLink RX4 16 "StrikePlan" "trial" "LStrikePlan$Tower;", Cond.methodLink RX4 132 yX4_tryPour, Cond.instanceMethod yX4_tryPour, Cond.selects RX4 yX4_tryPour yX4_tryPour, Cond.initialized RX4, Cond.code yX4_tryPour cX4_tryPour 1 (some .boolean), Cond.methodLink RX4 136 yX3_copyFrom, Cond.instanceMethod yX3_copyFrom, Cond.selects RX3 yX3_copyFrom yX3_copyFrom, Cond.initialized RX3, Cond.code yX3_copyFrom cX3_copyFrom 3 none, Cond.fieldLink RX3 9 "StrikePlan$Tower" "bounds" "[I", Cond.fieldLink RX3 31 "StrikePlan$Tower" "count" "I", Cond.fieldLink RX3 15 "StrikePlan$Tower" "pouredOn" "[I", Cond.fieldLink RX3 18 "StrikePlan$Tower" "slowness" "[I", Cond.fieldLink RX3 21 "StrikePlan$Tower" "load" "[I", Cond.fieldLink RX3 27 "StrikePlan$Tower" "day" "I", Cond.fieldLink RX3 34 "StrikePlan$Tower" "props" "I", Cond.methodLink RX4 178 yX3_addFloor]
def wsX4_pour_r2 : List Cond := [Cond.instanceMethod yX3_addFloor, Cond.selects RX3 yX3_addFloor yX3_addFloor, Cond.code yX3_addFloor cX3_addFloor 2 none, Cond.methodLink RX3 67 yX3_putProps, Cond.instanceMethod yX3_putProps, Cond.selects RX3 yX3_putProps yX3_putProps, Cond.code yX3_putProps cX3_putProps 2 none, Cond.methodLink RX3 71 yX3_shareAmong, Cond.instanceMethod yX3_shareAmong, Cond.selects RX3 yX3_shareAmong yX3_shareAmong, Cond.code yX3_shareAmong cX3_shareAmong 11 none, Cond.fieldLink RX3 24 "StrikePlan$Tower" "part" "[I", Cond.methodLink RX3 81 Lib.Math.min.name, Cond.static Lib.Math.min.name, Cond.initialized "java/lang/Math", Cond.code Lib.Math.min.name Lib.Math.min.code 2 (some .int), Cond.methodLink RX3 62 Lib.Math.max.name, Cond.static Lib.Math.max.name, Cond.code Lib.Math.max.name Lib.Math.max.code 2 (some .int), Cond.methodLink RX3 49 yX3_lowestOf, Cond.instanceMethod yX3_lowestOf, Cond.selects RX3 yX3_lowestOf yX3_lowestOf, Cond.code yX3_lowestOf cX3_lowestOf 3 (some .int), Cond.methodLink RX3 45 yX3_isPropped]
def wsX4_pour_r3 : List Cond := [Cond.instanceMethod yX3_isPropped, Cond.selects RX3 yX3_isPropped yX3_isPropped, Cond.code yX3_isPropped cX3_isPropped 2 (some .boolean), Cond.methodLink RX3 52 yX3_highestOf, Cond.instanceMethod yX3_highestOf, Cond.selects RX3 yX3_highestOf yX3_highestOf, Cond.code yX3_highestOf cX3_highestOf 3 (some .int), Cond.methodLink RX3 37 yX3_ageOf, Cond.instanceMethod yX3_ageOf, Cond.selects RX3 yX3_ageOf yX3_ageOf, Cond.code yX3_ageOf cX3_ageOf 2 (some .int), Cond.methodLink RX3 55 yX3_strengthOf, Cond.instanceMethod yX3_strengthOf, Cond.selects RX3 yX3_strengthOf yX3_strengthOf, Cond.code yX3_strengthOf cX3_strengthOf 3 (some .int), Cond.static yX4_percentAt, Cond.code yX4_percentAt cX4_percentAt 5 (some .int), Cond.constantLong RX4 198 (100), Cond.constantLong RX4 200 (4), Cond.methodLink RX3 84 yJ7_fill_53178, Cond.static yJ7_fill_53178, Cond.initialized RJ7, Cond.code yJ7_fill_53178 cJ7_fill_53178 4 none, Cond.methodLink RX3 90 yX3_spreadByOnes]
def wsX4_pour_r4 : List Cond := [Cond.instanceMethod yX3_spreadByOnes, Cond.selects RX3 yX3_spreadByOnes yX3_spreadByOnes, Cond.code yX3_spreadByOnes cX3_spreadByOnes 7 none, Cond.methodLink RX4 61 yX3_isSafe, Cond.instanceMethod yX3_isSafe, Cond.selects RX3 yX3_isSafe yX3_isSafe, Cond.code yX3_isSafe cX3_isSafe 1 (some .boolean), Cond.methodLink RX3 58 yX3_weakSet, Cond.instanceMethod yX3_weakSet, Cond.selects RX3 yX3_weakSet yX3_weakSet, Cond.code yX3_weakSet cX3_weakSet 3 (some .int), Cond.methodLink RX4 127 yX2_note, Cond.instanceMethod yX2_note, Cond.selects RX2 yX2_note yX2_note, Cond.initialized RX2, Cond.code yX2_note cX2_note 2 none, Cond.fieldLink RX2 11 "StrikePlan$Past" "ring" "[LStrikePlan$Tower;", Cond.fieldLink RX2 17 "StrikePlan$Past" "next" "I", Cond.fieldLink RX2 21 "StrikePlan$Past" "size" "I", Cond.methodLink RX2 29 Lib.Math.min.name, Cond.methodLink RX2 25 yX3_copyFrom]
def wsX4_pour : List Cond := .code yX4_pour cX4_pour 1 (some .int) :: ((wsX4_pour_r1 ++ (wsX4_pour_r2 ++ (wsX4_pour_r3 ++ wsX4_pour_r4))) ++ wsX40 ++ wsX30 ++ wsX20)
def wsX4_strike_r1 : List Cond := [Cond.fieldLink RX4 10 "StrikePlan" "now" "LStrikePlan$Tower;", Cond.constant RX4 85 (-1000000001), Cond.constant RX4 135 (-1000000003), Cond.fieldLink RX4 22 "StrikePlan" "past" "LStrikePlan$Past;", Cond.fieldLink RX4 16 "StrikePlan" "trial" "LStrikePlan$Tower;", Cond.methodLink RX4 68 yX3_has, Cond.instanceMethod yX3_has, Cond.selects RX3 yX3_has yX3_has, Cond.initialized RX3, Cond.code yX3_has cX3_has 2 (some .boolean), Cond.fieldLink RX3 31 "StrikePlan$Tower" "count" "I", Cond.methodLink RX4 120 yX4_tryStrike, Cond.instanceMethod yX4_tryStrike, Cond.selects RX4 yX4_tryStrike yX4_tryStrike, Cond.initialized RX4, Cond.code yX4_tryStrike cX4_tryStrike 3 (some .boolean), Cond.fieldLink RX4 44 "StrikePlan$Tower" "day" "I", Cond.methodLink RX4 98 yX3_isPropped, Cond.instanceMethod yX3_isPropped, Cond.selects RX3 yX3_isPropped yX3_isPropped, Cond.code yX3_isPropped cX3_isPropped 2 (some .boolean), Cond.fieldLink RX3 34 "StrikePlan$Tower" "props" "I", Cond.methodLink RX4 136 yX3_copyFrom, Cond.instanceMethod yX3_copyFrom]
def wsX4_strike_r2 : List Cond := [Cond.selects RX3 yX3_copyFrom yX3_copyFrom, Cond.code yX3_copyFrom cX3_copyFrom 3 none, Cond.fieldLink RX3 9 "StrikePlan$Tower" "bounds" "[I", Cond.fieldLink RX3 15 "StrikePlan$Tower" "pouredOn" "[I", Cond.fieldLink RX3 18 "StrikePlan$Tower" "slowness" "[I", Cond.fieldLink RX3 21 "StrikePlan$Tower" "load" "[I", Cond.fieldLink RX3 27 "StrikePlan$Tower" "day" "I", Cond.methodLink RX4 181 yX3_takeProps, Cond.instanceMethod yX3_takeProps, Cond.selects RX3 yX3_takeProps yX3_takeProps, Cond.code yX3_takeProps cX3_takeProps 3 none, Cond.methodLink RX3 75 yX3_has, Cond.methodLink RX3 78 yX3_forceUnder, Cond.instanceMethod yX3_forceUnder, Cond.selects RX3 yX3_forceUnder yX3_forceUnder, Cond.code yX3_forceUnder cX3_forceUnder 5 (some .int), Cond.methodLink RX3 45 yX3_isPropped, Cond.methodLink RX3 52 yX3_highestOf, Cond.instanceMethod yX3_highestOf, Cond.selects RX3 yX3_highestOf yX3_highestOf, Cond.code yX3_highestOf cX3_highestOf 3 (some .int), Cond.methodLink RX3 71 yX3_shareAmong, Cond.instanceMethod yX3_shareAmong, Cond.selects RX3 yX3_shareAmong yX3_shareAmong]
def wsX4_strike_r3 : List Cond := [Cond.code yX3_shareAmong cX3_shareAmong 11 none, Cond.fieldLink RX3 24 "StrikePlan$Tower" "part" "[I", Cond.methodLink RX3 81 Lib.Math.min.name, Cond.static Lib.Math.min.name, Cond.initialized "java/lang/Math", Cond.code Lib.Math.min.name Lib.Math.min.code 2 (some .int), Cond.methodLink RX3 62 Lib.Math.max.name, Cond.static Lib.Math.max.name, Cond.code Lib.Math.max.name Lib.Math.max.code 2 (some .int), Cond.methodLink RX3 49 yX3_lowestOf, Cond.instanceMethod yX3_lowestOf, Cond.selects RX3 yX3_lowestOf yX3_lowestOf, Cond.code yX3_lowestOf cX3_lowestOf 3 (some .int), Cond.methodLink RX3 37 yX3_ageOf, Cond.instanceMethod yX3_ageOf, Cond.selects RX3 yX3_ageOf yX3_ageOf, Cond.code yX3_ageOf cX3_ageOf 2 (some .int), Cond.methodLink RX3 55 yX3_strengthOf, Cond.instanceMethod yX3_strengthOf, Cond.selects RX3 yX3_strengthOf yX3_strengthOf, Cond.code yX3_strengthOf cX3_strengthOf 3 (some .int), Cond.static yX4_percentAt, Cond.code yX4_percentAt cX4_percentAt 5 (some .int), Cond.constantLong RX4 198 (100)]
def wsX4_strike_r4 : List Cond := [Cond.constantLong RX4 200 (4), Cond.methodLink RX3 84 yJ7_fill_53178, Cond.static yJ7_fill_53178, Cond.initialized RJ7, Cond.code yJ7_fill_53178 cJ7_fill_53178 4 none, Cond.methodLink RX3 90 yX3_spreadByOnes, Cond.instanceMethod yX3_spreadByOnes, Cond.selects RX3 yX3_spreadByOnes yX3_spreadByOnes, Cond.code yX3_spreadByOnes cX3_spreadByOnes 7 none, Cond.methodLink RX4 61 yX3_isSafe, Cond.instanceMethod yX3_isSafe, Cond.selects RX3 yX3_isSafe yX3_isSafe, Cond.code yX3_isSafe cX3_isSafe 1 (some .boolean), Cond.methodLink RX3 58 yX3_weakSet, Cond.instanceMethod yX3_weakSet, Cond.selects RX3 yX3_weakSet yX3_weakSet, Cond.code yX3_weakSet cX3_weakSet 3 (some .int), Cond.methodLink RX4 127 yX2_note, Cond.instanceMethod yX2_note, Cond.selects RX2 yX2_note yX2_note, Cond.initialized RX2, Cond.code yX2_note cX2_note 2 none, Cond.fieldLink RX2 11 "StrikePlan$Past" "ring" "[LStrikePlan$Tower;", Cond.fieldLink RX2 17 "StrikePlan$Past" "next" "I"]
def wsX4_strike_r5 : List Cond := [Cond.fieldLink RX2 21 "StrikePlan$Past" "size" "I", Cond.methodLink RX2 29 Lib.Math.min.name, Cond.methodLink RX2 25 yX3_copyFrom, Cond.methodLink RX4 101 yX3_lowestOf]
def wsX4_strike : List Cond := .code yX4_strike cX4_strike 2 (some .int) :: ((wsX4_strike_r1 ++ (wsX4_strike_r2 ++ (wsX4_strike_r3 ++ (wsX4_strike_r4 ++ wsX4_strike_r5)))) ++ wsX40 ++ wsX30 ++ wsX20)
def wsX4_back_r1 : List Cond := [Cond.fieldLink RX4 10 "StrikePlan" "now" "LStrikePlan$Tower;", Cond.constant RX4 85 (-1000000001), Cond.constant RX4 135 (-1000000003), Cond.fieldLink RX4 22 "StrikePlan" "past" "LStrikePlan$Past;", Cond.methodLink RX4 68 yX3_has, Cond.instanceMethod yX3_has, Cond.selects RX3 yX3_has yX3_has, Cond.initialized RX3, Cond.code yX3_has cX3_has 2 (some .boolean), Cond.fieldLink RX3 31 "StrikePlan$Tower" "count" "I", Cond.methodLink RX4 98 yX3_isPropped, Cond.instanceMethod yX3_isPropped, Cond.selects RX3 yX3_isPropped yX3_isPropped, Cond.code yX3_isPropped cX3_isPropped 2 (some .boolean), Cond.fieldLink RX3 34 "StrikePlan$Tower" "props" "I", Cond.methodLink RX4 127 yX2_note, Cond.instanceMethod yX2_note, Cond.selects RX2 yX2_note yX2_note, Cond.initialized RX2, Cond.code yX2_note cX2_note 2 none, Cond.fieldLink RX2 11 "StrikePlan$Past" "ring" "[LStrikePlan$Tower;", Cond.fieldLink RX2 17 "StrikePlan$Past" "next" "I", Cond.fieldLink RX2 21 "StrikePlan$Past" "size" "I", Cond.methodLink RX2 29 Lib.Math.min.name]
def wsX4_back_r2 : List Cond := [Cond.static Lib.Math.min.name, Cond.initialized "java/lang/Math", Cond.code Lib.Math.min.name Lib.Math.min.code 2 (some .int), Cond.methodLink RX2 25 yX3_copyFrom, Cond.instanceMethod yX3_copyFrom, Cond.selects RX3 yX3_copyFrom yX3_copyFrom, Cond.code yX3_copyFrom cX3_copyFrom 3 none, Cond.fieldLink RX3 9 "StrikePlan$Tower" "bounds" "[I", Cond.fieldLink RX3 15 "StrikePlan$Tower" "pouredOn" "[I", Cond.fieldLink RX3 18 "StrikePlan$Tower" "slowness" "[I", Cond.fieldLink RX3 21 "StrikePlan$Tower" "load" "[I", Cond.fieldLink RX3 27 "StrikePlan$Tower" "day" "I", Cond.methodLink RX4 139 yX3_putProps, Cond.instanceMethod yX3_putProps, Cond.selects RX3 yX3_putProps yX3_putProps, Cond.code yX3_putProps cX3_putProps 2 none, Cond.methodLink RX4 101 yX3_lowestOf, Cond.instanceMethod yX3_lowestOf, Cond.selects RX3 yX3_lowestOf yX3_lowestOf, Cond.code yX3_lowestOf cX3_lowestOf 3 (some .int), Cond.methodLink RX3 45 yX3_isPropped]
def wsX4_back : List Cond := .code yX4_back cX4_back 2 (some .int) :: ((wsX4_back_r1 ++ wsX4_back_r2) ++ wsX40 ++ wsX30 ++ wsX20)
def wsX4_slow_r1 : List Cond := [Cond.fieldLink RX4 10 "StrikePlan" "now" "LStrikePlan$Tower;", Cond.constant RX4 85 (-1000000001), Cond.constant RX4 84 (-1000000002), Cond.fieldLink RX4 22 "StrikePlan" "past" "LStrikePlan$Past;", Cond.fieldLink RX4 89 "StrikePlan$Tower" "slowness" "[I", Cond.methodLink RX4 68 yX3_has, Cond.instanceMethod yX3_has, Cond.selects RX3 yX3_has yX3_has, Cond.initialized RX3, Cond.code yX3_has cX3_has 2 (some .boolean), Cond.fieldLink RX3 31 "StrikePlan$Tower" "count" "I", Cond.methodLink RX4 127 yX2_note, Cond.instanceMethod yX2_note, Cond.selects RX2 yX2_note yX2_note, Cond.initialized RX2, Cond.code yX2_note cX2_note 2 none, Cond.fieldLink RX2 11 "StrikePlan$Past" "ring" "[LStrikePlan$Tower;", Cond.fieldLink RX2 17 "StrikePlan$Past" "next" "I", Cond.fieldLink RX2 21 "StrikePlan$Past" "size" "I", Cond.methodLink RX2 29 Lib.Math.min.name, Cond.static Lib.Math.min.name, Cond.initialized "java/lang/Math", Cond.code Lib.Math.min.name Lib.Math.min.code 2 (some .int), Cond.methodLink RX2 25 yX3_copyFrom]
def wsX4_slow_r2 : List Cond := [Cond.instanceMethod yX3_copyFrom, Cond.selects RX3 yX3_copyFrom yX3_copyFrom, Cond.code yX3_copyFrom cX3_copyFrom 3 none, Cond.fieldLink RX3 9 "StrikePlan$Tower" "bounds" "[I", Cond.fieldLink RX3 15 "StrikePlan$Tower" "pouredOn" "[I", Cond.fieldLink RX3 18 "StrikePlan$Tower" "slowness" "[I", Cond.fieldLink RX3 21 "StrikePlan$Tower" "load" "[I", Cond.fieldLink RX3 27 "StrikePlan$Tower" "day" "I", Cond.fieldLink RX3 34 "StrikePlan$Tower" "props" "I"]
def wsX4_slow : List Cond := .code yX4_slow cX4_slow 4 (some .int) :: ((wsX4_slow_r1 ++ wsX4_slow_r2) ++ wsX40 ++ wsX30 ++ wsX20)
def wsX4_bound_r1 : List Cond := [Cond.fieldLink RX4 143 "StrikePlan" "LEAST_BOUND" "[I", Cond.fieldLink RX4 146 "StrikePlan" "GREATEST_BOUND" "[I", Cond.constant RX4 84 (-1000000002), Cond.fieldLink RX4 10 "StrikePlan" "now" "LStrikePlan$Tower;", Cond.fieldLink RX4 47 "StrikePlan$Tower" "count" "I", Cond.constant RX4 135 (-1000000003), Cond.fieldLink RX4 22 "StrikePlan" "past" "LStrikePlan$Past;", Cond.fieldLink RX4 50 "StrikePlan$Tower" "bounds" "[I", Cond.methodLink RX4 127 yX2_note, Cond.instanceMethod yX2_note, Cond.selects RX2 yX2_note yX2_note, Cond.initialized RX2, Cond.code yX2_note cX2_note 2 none, Cond.fieldLink RX2 11 "StrikePlan$Past" "ring" "[LStrikePlan$Tower;", Cond.fieldLink RX2 17 "StrikePlan$Past" "next" "I", Cond.fieldLink RX2 21 "StrikePlan$Past" "size" "I", Cond.methodLink RX2 29 Lib.Math.min.name, Cond.static Lib.Math.min.name, Cond.initialized "java/lang/Math", Cond.code Lib.Math.min.name Lib.Math.min.code 2 (some .int), Cond.methodLink RX2 25 yX3_copyFrom, Cond.instanceMethod yX3_copyFrom, Cond.selects RX3 yX3_copyFrom yX3_copyFrom, Cond.initialized RX3]
def wsX4_bound_r2 : List Cond := [Cond.code yX3_copyFrom cX3_copyFrom 3 none, Cond.fieldLink RX3 9 "StrikePlan$Tower" "bounds" "[I", Cond.fieldLink RX3 31 "StrikePlan$Tower" "count" "I", Cond.fieldLink RX3 15 "StrikePlan$Tower" "pouredOn" "[I", Cond.fieldLink RX3 18 "StrikePlan$Tower" "slowness" "[I", Cond.fieldLink RX3 21 "StrikePlan$Tower" "load" "[I", Cond.fieldLink RX3 27 "StrikePlan$Tower" "day" "I", Cond.fieldLink RX3 34 "StrikePlan$Tower" "props" "I"]
def wsX4_bound : List Cond := .code yX4_bound cX4_bound 4 (some .int) :: ((wsX4_bound_r1 ++ wsX4_bound_r2) ++ wsX40 ++ wsX30 ++ wsX20)
def wsX4_clear_r1 : List Cond := [Cond.fieldLink RX4 22 "StrikePlan" "past" "LStrikePlan$Past;", Cond.fieldLink RX4 10 "StrikePlan" "now" "LStrikePlan$Tower;", Cond.fieldLink RX4 47 "StrikePlan$Tower" "count" "I", Cond.methodLink RX4 127 yX2_note, Cond.instanceMethod yX2_note, Cond.selects RX2 yX2_note yX2_note, Cond.initialized RX2, Cond.code yX2_note cX2_note 2 none, Cond.fieldLink RX2 11 "StrikePlan$Past" "ring" "[LStrikePlan$Tower;", Cond.fieldLink RX2 17 "StrikePlan$Past" "next" "I", Cond.fieldLink RX2 21 "StrikePlan$Past" "size" "I", Cond.methodLink RX2 29 Lib.Math.min.name, Cond.static Lib.Math.min.name, Cond.initialized "java/lang/Math", Cond.code Lib.Math.min.name Lib.Math.min.code 2 (some .int), Cond.methodLink RX2 25 yX3_copyFrom, Cond.instanceMethod yX3_copyFrom, Cond.selects RX3 yX3_copyFrom yX3_copyFrom, Cond.initialized RX3, Cond.code yX3_copyFrom cX3_copyFrom 3 none, Cond.fieldLink RX3 9 "StrikePlan$Tower" "bounds" "[I", Cond.fieldLink RX3 31 "StrikePlan$Tower" "count" "I", Cond.fieldLink RX3 15 "StrikePlan$Tower" "pouredOn" "[I", Cond.fieldLink RX3 18 "StrikePlan$Tower" "slowness" "[I"]
def wsX4_clear_r2 : List Cond := [Cond.fieldLink RX3 21 "StrikePlan$Tower" "load" "[I", Cond.fieldLink RX3 27 "StrikePlan$Tower" "day" "I", Cond.fieldLink RX3 34 "StrikePlan$Tower" "props" "I", Cond.methodLink RX4 149 yX3_empty, Cond.instanceMethod yX3_empty, Cond.selects RX3 yX3_empty yX3_empty, Cond.code yX3_empty cX3_empty 1 none]
def wsX4_clear : List Cond := .code yX4_clear cX4_clear 2 (some .int) :: ((wsX4_clear_r1 ++ wsX4_clear_r2) ++ wsX40 ++ wsX30 ++ wsX20)
def wsX4_nextDraw : List Cond := .code yX4_nextDraw cX4_nextDraw 1 (some .int) :: ([.fieldLink RX4 39 "StrikePlan" "drawSeed" "I", .constant RX4 195 (1103515245), .constant RX4 196 (2147483647), .constant RX4 197 (65536)] ++ wsX40)
def wsX4_drift_r1 : List Cond := [Cond.constant RX4 84 (-1000000002), Cond.fieldLink RX4 22 "StrikePlan" "past" "LStrikePlan$Past;", Cond.fieldLink RX4 10 "StrikePlan" "now" "LStrikePlan$Tower;", Cond.fieldLink RX4 44 "StrikePlan$Tower" "day" "I", Cond.fieldLink RX4 16 "StrikePlan" "trial" "LStrikePlan$Tower;", Cond.fieldLink RX4 47 "StrikePlan$Tower" "count" "I", Cond.methodLink RX4 127 yX2_note, Cond.instanceMethod yX2_note, Cond.selects RX2 yX2_note yX2_note, Cond.initialized RX2, Cond.code yX2_note cX2_note 2 none, Cond.fieldLink RX2 11 "StrikePlan$Past" "ring" "[LStrikePlan$Tower;", Cond.fieldLink RX2 17 "StrikePlan$Past" "next" "I", Cond.fieldLink RX2 21 "StrikePlan$Past" "size" "I", Cond.methodLink RX2 29 Lib.Math.min.name, Cond.static Lib.Math.min.name, Cond.initialized "java/lang/Math", Cond.code Lib.Math.min.name Lib.Math.min.code 2 (some .int), Cond.methodLink RX2 25 yX3_copyFrom, Cond.instanceMethod yX3_copyFrom, Cond.selects RX3 yX3_copyFrom yX3_copyFrom, Cond.initialized RX3, Cond.code yX3_copyFrom cX3_copyFrom 3 none, Cond.fieldLink RX3 9 "StrikePlan$Tower" "bounds" "[I"]
def wsX4_drift_r2 : List Cond := [Cond.fieldLink RX3 31 "StrikePlan$Tower" "count" "I", Cond.fieldLink RX3 15 "StrikePlan$Tower" "pouredOn" "[I", Cond.fieldLink RX3 18 "StrikePlan$Tower" "slowness" "[I", Cond.fieldLink RX3 21 "StrikePlan$Tower" "load" "[I", Cond.fieldLink RX3 27 "StrikePlan$Tower" "day" "I", Cond.fieldLink RX3 34 "StrikePlan$Tower" "props" "I", Cond.methodLink RX4 152 yX4_nextDraw, Cond.instanceMethod yX4_nextDraw, Cond.selects RX4 yX4_nextDraw yX4_nextDraw, Cond.initialized RX4, Cond.code yX4_nextDraw cX4_nextDraw 1 (some .int), Cond.fieldLink RX4 39 "StrikePlan" "drawSeed" "I", Cond.constant RX4 195 (1103515245), Cond.constant RX4 196 (2147483647), Cond.constant RX4 197 (65536), Cond.methodLink RX4 132 yX4_tryPour, Cond.instanceMethod yX4_tryPour, Cond.selects RX4 yX4_tryPour yX4_tryPour, Cond.code yX4_tryPour cX4_tryPour 1 (some .boolean), Cond.methodLink RX4 136 yX3_copyFrom, Cond.methodLink RX4 178 yX3_addFloor, Cond.instanceMethod yX3_addFloor, Cond.selects RX3 yX3_addFloor yX3_addFloor, Cond.code yX3_addFloor cX3_addFloor 2 none]
def wsX4_drift_r3 : List Cond := [Cond.methodLink RX3 67 yX3_putProps, Cond.instanceMethod yX3_putProps, Cond.selects RX3 yX3_putProps yX3_putProps, Cond.code yX3_putProps cX3_putProps 2 none, Cond.methodLink RX3 71 yX3_shareAmong, Cond.instanceMethod yX3_shareAmong, Cond.selects RX3 yX3_shareAmong yX3_shareAmong, Cond.code yX3_shareAmong cX3_shareAmong 11 none, Cond.fieldLink RX3 24 "StrikePlan$Tower" "part" "[I", Cond.methodLink RX3 81 Lib.Math.min.name, Cond.methodLink RX3 62 Lib.Math.max.name, Cond.static Lib.Math.max.name, Cond.code Lib.Math.max.name Lib.Math.max.code 2 (some .int), Cond.methodLink RX3 49 yX3_lowestOf, Cond.instanceMethod yX3_lowestOf, Cond.selects RX3 yX3_lowestOf yX3_lowestOf, Cond.code yX3_lowestOf cX3_lowestOf 3 (some .int), Cond.methodLink RX3 45 yX3_isPropped, Cond.instanceMethod yX3_isPropped, Cond.selects RX3 yX3_isPropped yX3_isPropped, Cond.code yX3_isPropped cX3_isPropped 2 (some .boolean), Cond.methodLink RX3 52 yX3_highestOf, Cond.instanceMethod yX3_highestOf, Cond.selects RX3 yX3_highestOf yX3_highestOf]
def wsX4_drift_r4 : List Cond := [Cond.code yX3_highestOf cX3_highestOf 3 (some .int), Cond.methodLink RX3 37 yX3_ageOf, Cond.instanceMethod yX3_ageOf, Cond.selects RX3 yX3_ageOf yX3_ageOf, Cond.code yX3_ageOf cX3_ageOf 2 (some .int), Cond.methodLink RX3 55 yX3_strengthOf, Cond.instanceMethod yX3_strengthOf, Cond.selects RX3 yX3_strengthOf yX3_strengthOf, Cond.code yX3_strengthOf cX3_strengthOf 3 (some .int), Cond.static yX4_percentAt, Cond.code yX4_percentAt cX4_percentAt 5 (some .int), Cond.constantLong RX4 198 (100), Cond.constantLong RX4 200 (4), Cond.methodLink RX3 84 yJ7_fill_53178, Cond.static yJ7_fill_53178, Cond.initialized RJ7, Cond.code yJ7_fill_53178 cJ7_fill_53178 4 none, Cond.methodLink RX3 90 yX3_spreadByOnes, Cond.instanceMethod yX3_spreadByOnes, Cond.selects RX3 yX3_spreadByOnes yX3_spreadByOnes, Cond.code yX3_spreadByOnes cX3_spreadByOnes 7 none, Cond.methodLink RX4 61 yX3_isSafe, Cond.instanceMethod yX3_isSafe, Cond.selects RX3 yX3_isSafe yX3_isSafe]
def wsX4_drift_r5 : List Cond := [Cond.code yX3_isSafe cX3_isSafe 1 (some .boolean), Cond.methodLink RX3 58 yX3_weakSet, Cond.instanceMethod yX3_weakSet, Cond.selects RX3 yX3_weakSet yX3_weakSet, Cond.code yX3_weakSet cX3_weakSet 3 (some .int), Cond.methodLink RX4 120 yX4_tryStrike, Cond.instanceMethod yX4_tryStrike, Cond.selects RX4 yX4_tryStrike yX4_tryStrike, Cond.code yX4_tryStrike cX4_tryStrike 3 (some .boolean), Cond.methodLink RX4 68 yX3_has, Cond.instanceMethod yX3_has, Cond.selects RX3 yX3_has yX3_has, Cond.code yX3_has cX3_has 2 (some .boolean), Cond.methodLink RX4 98 yX3_isPropped, Cond.methodLink RX4 181 yX3_takeProps, Cond.instanceMethod yX3_takeProps, Cond.selects RX3 yX3_takeProps yX3_takeProps, Cond.code yX3_takeProps cX3_takeProps 3 none, Cond.methodLink RX3 75 yX3_has, Cond.methodLink RX3 78 yX3_forceUnder, Cond.instanceMethod yX3_forceUnder, Cond.selects RX3 yX3_forceUnder yX3_forceUnder, Cond.code yX3_forceUnder cX3_forceUnder 5 (some .int), Cond.methodLink RX4 139 yX3_putProps]
def wsX4_drift : List Cond := .code yX4_drift cX4_drift 6 (some .int) :: ((wsX4_drift_r1 ++ (wsX4_drift_r2 ++ (wsX4_drift_r3 ++ (wsX4_drift_r4 ++ wsX4_drift_r5)))) ++ wsX40 ++ wsX30 ++ wsX20)
def wsX4_undo_r1 : List Cond := [Cond.constant RX4 84 (-1000000002), Cond.fieldLink RX4 22 "StrikePlan" "past" "LStrikePlan$Past;", Cond.fieldLink RX4 83 "StrikePlan$Past" "size" "I", Cond.constant RX4 135 (-1000000003), Cond.fieldLink RX4 10 "StrikePlan" "now" "LStrikePlan$Tower;", Cond.fieldLink RX4 44 "StrikePlan$Tower" "day" "I", Cond.methodLink RX4 155 yX2_takeBack, Cond.instanceMethod yX2_takeBack, Cond.selects RX2 yX2_takeBack yX2_takeBack, Cond.initialized RX2, Cond.code yX2_takeBack cX2_takeBack 3 none, Cond.fieldLink RX2 21 "StrikePlan$Past" "size" "I", Cond.fieldLink RX2 17 "StrikePlan$Past" "next" "I", Cond.fieldLink RX2 11 "StrikePlan$Past" "ring" "[LStrikePlan$Tower;", Cond.methodLink RX2 25 yX3_copyFrom, Cond.instanceMethod yX3_copyFrom, Cond.selects RX3 yX3_copyFrom yX3_copyFrom, Cond.initialized RX3, Cond.code yX3_copyFrom cX3_copyFrom 3 none, Cond.fieldLink RX3 9 "StrikePlan$Tower" "bounds" "[I", Cond.fieldLink RX3 31 "StrikePlan$Tower" "count" "I", Cond.fieldLink RX3 15 "StrikePlan$Tower" "pouredOn" "[I", Cond.fieldLink RX3 18 "StrikePlan$Tower" "slowness" "[I", Cond.fieldLink RX3 21 "StrikePlan$Tower" "load" "[I"]
def wsX4_undo_r2 : List Cond := [Cond.fieldLink RX3 27 "StrikePlan$Tower" "day" "I", Cond.fieldLink RX3 34 "StrikePlan$Tower" "props" "I"]
def wsX4_undo : List Cond := .code yX4_undo cX4_undo 2 (some .int) :: ((wsX4_undo_r1 ++ wsX4_undo_r2) ++ wsX40 ++ wsX20 ++ wsX30)
def wsX4_write : List Cond := .code yX4_write cX4_write 3 (some .int) :: ([.fieldLink RX4 10 "StrikePlan" "now" "LStrikePlan$Tower;", .constant RX4 85 (-1000000001), .fieldLink RX4 29 "StrikePlan" "book" "LStrikePlan$Book;", .fieldLink RX4 76 "StrikePlan$Book" "size" "I", .constant RX4 131 (-1000000004), .methodLink RX4 68 yX3_has, .instanceMethod yX3_has, .selects RX3 yX3_has yX3_has, .initialized RX3, .code yX3_has cX3_has 2 (some .boolean), .fieldLink RX3 31 "StrikePlan$Tower" "count" "I", .methodLink RX4 159 yX0_add, .instanceMethod yX0_add, .selects RX0 yX0_add yX0_add, .initialized RX0, .code yX0_add cX0_add 3 none, .fieldLink RX0 18 "StrikePlan$Book" "size" "I", .fieldLink RX0 9 "StrikePlan$Book" "floors" "[I", .fieldLink RX0 15 "StrikePlan$Book" "loads" "[I"] ++ wsX40 ++ wsX00 ++ wsX30)
def wsX4_tear : List Cond := .code yX4_tear cX4_tear 2 (some .int) :: ([.fieldLink RX4 29 "StrikePlan" "book" "LStrikePlan$Book;", .fieldLink RX4 76 "StrikePlan$Book" "size" "I"] ++ wsX40 ++ wsX00)
def wsX4_seed : List Cond := .code yX4_seed cX4_seed 3 (some .int) :: ([.constant RX4 84 (-1000000002), .fieldLink RX4 39 "StrikePlan" "drawSeed" "I"] ++ wsX40)
def wsX4_keep_r1 : List Cond := [Cond.constant RX4 85 (-1000000001), Cond.fieldLink RX4 35 "StrikePlan" "images" "[LStrikePlan$Image;", Cond.fieldLink RX4 10 "StrikePlan" "now" "LStrikePlan$Tower;", Cond.fieldLink RX4 39 "StrikePlan" "drawSeed" "I", Cond.fieldLink RX4 22 "StrikePlan" "past" "LStrikePlan$Past;", Cond.methodLink RX4 163 yX1_take, Cond.instanceMethod yX1_take, Cond.selects RX1 yX1_take yX1_take, Cond.initialized RX1, Cond.code yX1_take cX1_take 3 none, Cond.fieldLink RX1 10 "StrikePlan$Image" "tower" "LStrikePlan$Tower;", Cond.fieldLink RX1 16 "StrikePlan$Image" "drawSeed" "I", Cond.fieldLink RX1 20 "StrikePlan$Image" "taken" "Z", Cond.methodLink RX1 24 yX3_copyFrom, Cond.instanceMethod yX3_copyFrom, Cond.selects RX3 yX3_copyFrom yX3_copyFrom, Cond.initialized RX3, Cond.code yX3_copyFrom cX3_copyFrom 3 none, Cond.fieldLink RX3 9 "StrikePlan$Tower" "bounds" "[I", Cond.fieldLink RX3 31 "StrikePlan$Tower" "count" "I", Cond.fieldLink RX3 15 "StrikePlan$Tower" "pouredOn" "[I", Cond.fieldLink RX3 18 "StrikePlan$Tower" "slowness" "[I", Cond.fieldLink RX3 21 "StrikePlan$Tower" "load" "[I", Cond.fieldLink RX3 27 "StrikePlan$Tower" "day" "I"]
def wsX4_keep_r2 : List Cond := [Cond.fieldLink RX3 34 "StrikePlan$Tower" "props" "I", Cond.methodLink RX4 167 yX2_forget, Cond.instanceMethod yX2_forget, Cond.selects RX2 yX2_forget yX2_forget, Cond.initialized RX2, Cond.code yX2_forget cX2_forget 1 none, Cond.fieldLink RX2 21 "StrikePlan$Past" "size" "I"]
def wsX4_keep : List Cond := .code yX4_keep cX4_keep 2 (some .int) :: ((wsX4_keep_r1 ++ wsX4_keep_r2) ++ wsX40 ++ wsX10 ++ wsX30 ++ wsX20)
def wsX4_goBack_r1 : List Cond := [Cond.constant RX4 85 (-1000000001), Cond.fieldLink RX4 35 "StrikePlan" "images" "[LStrikePlan$Image;", Cond.fieldLink RX4 170 "StrikePlan$Image" "taken" "Z", Cond.constant RX4 135 (-1000000003), Cond.fieldLink RX4 10 "StrikePlan" "now" "LStrikePlan$Tower;", Cond.fieldLink RX4 174 "StrikePlan$Image" "tower" "LStrikePlan$Tower;", Cond.fieldLink RX4 177 "StrikePlan$Image" "drawSeed" "I", Cond.fieldLink RX4 39 "StrikePlan" "drawSeed" "I", Cond.fieldLink RX4 22 "StrikePlan" "past" "LStrikePlan$Past;", Cond.methodLink RX4 136 yX3_copyFrom, Cond.instanceMethod yX3_copyFrom, Cond.selects RX3 yX3_copyFrom yX3_copyFrom, Cond.initialized RX3, Cond.code yX3_copyFrom cX3_copyFrom 3 none, Cond.fieldLink RX3 9 "StrikePlan$Tower" "bounds" "[I", Cond.fieldLink RX3 31 "StrikePlan$Tower" "count" "I", Cond.fieldLink RX3 15 "StrikePlan$Tower" "pouredOn" "[I", Cond.fieldLink RX3 18 "StrikePlan$Tower" "slowness" "[I", Cond.fieldLink RX3 21 "StrikePlan$Tower" "load" "[I", Cond.fieldLink RX3 27 "StrikePlan$Tower" "day" "I", Cond.fieldLink RX3 34 "StrikePlan$Tower" "props" "I", Cond.methodLink RX4 167 yX2_forget, Cond.instanceMethod yX2_forget, Cond.selects RX2 yX2_forget yX2_forget]
def wsX4_goBack_r2 : List Cond := [Cond.initialized RX2, Cond.code yX2_forget cX2_forget 1 none, Cond.fieldLink RX2 21 "StrikePlan$Past" "size" "I"]
def wsX4_goBack : List Cond := .code yX4_goBack cX4_goBack 2 (some .int) :: ((wsX4_goBack_r1 ++ wsX4_goBack_r2) ++ wsX40 ++ wsX10 ++ wsX30 ++ wsX20)
def wsX5_init : List Cond := .code yX5_init cX5_init 1 none :: ([.methodLink RX5 1 objectInit, .instanceMethod objectInit, .code objectInit ⟨#[0xb1]⟩ 1 none, .arrayClass .int, .fieldLink RX5 7 "StrikePlanModel" "now" "[I", .fieldLink RX5 13 "StrikePlanModel" "aside" "[I", .fieldLink RX5 16 "StrikePlanModel" "past" "[I", .fieldLink RX5 19 "StrikePlanModel" "images" "[I", .arrayClass .long, .fieldLink RX5 22 "StrikePlanModel" "seeds" "[J", .arrayClass .boolean, .fieldLink RX5 26 "StrikePlanModel" "kept" "[Z", .fieldLink RX5 30 "StrikePlanModel" "book" "[I", .fieldLink RX5 33 "StrikePlanModel" "parts" "[I"] ++ wsX50)
def wsX5_in : List Cond := .code yX5_in cX5_in 3 (some .boolean) :: ([])
def wsX5_isFloor : List Cond := .code yX5_isFloor cX5_isFloor 2 (some .boolean) :: ([.fieldLink RX5 7 "StrikePlanModel" "now" "[I", .methodLink RX5 36 yX5_in, .static yX5_in, .initialized RX5, .code yX5_in cX5_in 3 (some .boolean)] ++ wsX50)
def wsX5_of : List Cond := .code yX5_of cX5_of 3 (some .int) :: ([.fieldLink RX5 7 "StrikePlanModel" "now" "[I"] ++ wsX50)
def wsX5_put : List Cond := .code yX5_put cX5_put 4 none :: ([.fieldLink RX5 7 "StrikePlanModel" "now" "[I"] ++ wsX50)
def wsX5_notes : List Cond := .code yX5_notes cX5_notes 2 none :: ([.fieldLink RX5 40 "StrikePlanModel" "deeds" "I", .fieldLink RX5 16 "StrikePlanModel" "past" "[I", .fieldLink RX5 7 "StrikePlanModel" "now" "[I"] ++ wsX50)
def wsX5_lays : List Cond := .code yX5_lays cX5_lays 2 none :: ([.fieldLink RX5 13 "StrikePlanModel" "aside" "[I", .fieldLink RX5 7 "StrikePlanModel" "now" "[I"] ++ wsX50)
def wsX5_takesBack : List Cond := .code yX5_takesBack cX5_takesBack 2 none :: ([.fieldLink RX5 7 "StrikePlanModel" "now" "[I", .fieldLink RX5 13 "StrikePlanModel" "aside" "[I"] ++ wsX50)
def wsX5_age : List Cond := .code yX5_age cX5_age 2 (some .int) :: ([.fieldLink RX5 7 "StrikePlanModel" "now" "[I", .methodLink RX5 44 yX5_of, .instanceMethod yX5_of, .selects RX5 yX5_of yX5_of, .initialized RX5, .code yX5_of cX5_of 3 (some .int)] ++ wsX50)
def wsX5_hundredthsBy : List Cond := .code yX5_hundredthsBy cX5_hundredthsBy 4 (some .int) :: ([])
def wsX5_strength : List Cond := .code yX5_strength cX5_strength 3 (some .int) :: ([.fieldLink RX5 7 "StrikePlanModel" "now" "[I", .methodLink RX5 48 yX5_age, .instanceMethod yX5_age, .selects RX5 yX5_age yX5_age, .initialized RX5, .code yX5_age cX5_age 2 (some .int), .methodLink RX5 44 yX5_of, .instanceMethod yX5_of, .selects RX5 yX5_of yX5_of, .code yX5_of cX5_of 3 (some .int), .methodLink RX5 52 yX5_hundredthsBy, .static yX5_hundredthsBy, .code yX5_hundredthsBy cX5_hundredthsBy 4 (some .int)] ++ wsX50)
def wsX5_isPropped : List Cond := .code yX5_isPropped cX5_isPropped 2 (some .boolean) :: ([.methodLink RX5 44 yX5_of, .instanceMethod yX5_of, .selects RX5 yX5_of yX5_of, .initialized RX5, .code yX5_of cX5_of 3 (some .int), .fieldLink RX5 7 "StrikePlanModel" "now" "[I"] ++ wsX50)
def wsX5_lowest : List Cond := .code yX5_lowest cX5_lowest 3 (some .int) :: ([.methodLink RX5 55 yX5_isPropped, .instanceMethod yX5_isPropped, .selects RX5 yX5_isPropped yX5_isPropped, .initialized RX5, .code yX5_isPropped cX5_isPropped 2 (some .boolean), .methodLink RX5 44 yX5_of, .instanceMethod yX5_of, .selects RX5 yX5_of yX5_of, .code yX5_of cX5_of 3 (some .int), .fieldLink RX5 7 "StrikePlanModel" "now" "[I"] ++ wsX50)
def wsX5_highest : List Cond := .code yX5_highest cX5_highest 3 (some .int) :: ([.fieldLink RX5 7 "StrikePlanModel" "now" "[I", .methodLink RX5 55 yX5_isPropped, .instanceMethod yX5_isPropped, .selects RX5 yX5_isPropped yX5_isPropped, .initialized RX5, .code yX5_isPropped cX5_isPropped 2 (some .boolean), .methodLink RX5 44 yX5_of, .instanceMethod yX5_of, .selects RX5 yX5_of yX5_of, .code yX5_of cX5_of 3 (some .int)] ++ wsX50)
def wsX5_isGrounded : List Cond := .code yX5_isGrounded cX5_isGrounded 2 (some .boolean) :: ([.methodLink RX5 59 yX5_lowest, .instanceMethod yX5_lowest, .selects RX5 yX5_lowest yX5_lowest, .initialized RX5, .code yX5_lowest cX5_lowest 3 (some .int), .methodLink RX5 55 yX5_isPropped, .instanceMethod yX5_isPropped, .selects RX5 yX5_isPropped yX5_isPropped, .code yX5_isPropped cX5_isPropped 2 (some .boolean), .methodLink RX5 44 yX5_of, .instanceMethod yX5_of, .selects RX5 yX5_of yX5_of, .code yX5_of cX5_of 3 (some .int), .fieldLink RX5 7 "StrikePlanModel" "now" "[I"] ++ wsX50)
def wsX5_force : List Cond := .code yX5_force cX5_force 4 (some .int) :: ([.fieldLink RX5 7 "StrikePlanModel" "now" "[I", .methodLink RX5 62 yX5_highest, .instanceMethod yX5_highest, .selects RX5 yX5_highest yX5_highest, .initialized RX5, .code yX5_highest cX5_highest 3 (some .int), .methodLink RX5 55 yX5_isPropped, .instanceMethod yX5_isPropped, .selects RX5 yX5_isPropped yX5_isPropped, .code yX5_isPropped cX5_isPropped 2 (some .boolean), .methodLink RX5 44 yX5_of, .instanceMethod yX5_of, .selects RX5 yX5_of yX5_of, .code yX5_of cX5_of 3 (some .int)] ++ wsX50)
def wsX5_shares_r1 : List Cond := [Cond.fieldLink RX5 33 "StrikePlanModel" "parts" "[I", Cond.fieldLink RX5 7 "StrikePlanModel" "now" "[I", Cond.methodLink RX5 65 yX5_isGrounded, Cond.instanceMethod yX5_isGrounded, Cond.selects RX5 yX5_isGrounded yX5_isGrounded, Cond.initialized RX5, Cond.code yX5_isGrounded cX5_isGrounded 2 (some .boolean), Cond.methodLink RX5 59 yX5_lowest, Cond.instanceMethod yX5_lowest, Cond.selects RX5 yX5_lowest yX5_lowest, Cond.code yX5_lowest cX5_lowest 3 (some .int), Cond.methodLink RX5 55 yX5_isPropped, Cond.instanceMethod yX5_isPropped, Cond.selects RX5 yX5_isPropped yX5_isPropped, Cond.code yX5_isPropped cX5_isPropped 2 (some .boolean), Cond.methodLink RX5 44 yX5_of, Cond.instanceMethod yX5_of, Cond.selects RX5 yX5_of yX5_of, Cond.code yX5_of cX5_of 3 (some .int), Cond.methodLink RX5 62 yX5_highest, Cond.instanceMethod yX5_highest, Cond.selects RX5 yX5_highest yX5_highest, Cond.code yX5_highest cX5_highest 3 (some .int), Cond.methodLink RX5 48 yX5_age]
def wsX5_shares_r2 : List Cond := [Cond.instanceMethod yX5_age, Cond.selects RX5 yX5_age yX5_age, Cond.code yX5_age cX5_age 2 (some .int), Cond.methodLink RX5 68 yX5_strength, Cond.instanceMethod yX5_strength, Cond.selects RX5 yX5_strength yX5_strength, Cond.code yX5_strength cX5_strength 3 (some .int), Cond.methodLink RX5 52 yX5_hundredthsBy, Cond.static yX5_hundredthsBy, Cond.code yX5_hundredthsBy cX5_hundredthsBy 4 (some .int), Cond.methodLink RX5 71 yX5_put, Cond.instanceMethod yX5_put, Cond.selects RX5 yX5_put yX5_put, Cond.code yX5_put cX5_put 4 none]
def wsX5_shares : List Cond := .code yX5_shares cX5_shares 9 none :: ((wsX5_shares_r1 ++ wsX5_shares_r2) ++ wsX50)
def wsX5_weak : List Cond := .code yX5_weak cX5_weak 3 (some .int) :: ([.fieldLink RX5 7 "StrikePlanModel" "now" "[I", .methodLink RX5 44 yX5_of, .instanceMethod yX5_of, .selects RX5 yX5_of yX5_of, .initialized RX5, .code yX5_of cX5_of 3 (some .int), .methodLink RX5 68 yX5_strength, .instanceMethod yX5_strength, .selects RX5 yX5_strength yX5_strength, .code yX5_strength cX5_strength 3 (some .int), .methodLink RX5 48 yX5_age, .instanceMethod yX5_age, .selects RX5 yX5_age yX5_age, .code yX5_age cX5_age 2 (some .int), .methodLink RX5 52 yX5_hundredthsBy, .static yX5_hundredthsBy, .code yX5_hundredthsBy cX5_hundredthsBy 4 (some .int)] ++ wsX50)
def wsX5_pours_r1 : List Cond := [Cond.fieldLink RX5 7 "StrikePlanModel" "now" "[I", Cond.methodLink RX5 71 yX5_put, Cond.instanceMethod yX5_put, Cond.selects RX5 yX5_put yX5_put, Cond.initialized RX5, Cond.code yX5_put cX5_put 4 none, Cond.methodLink RX5 75 yX5_shares, Cond.instanceMethod yX5_shares, Cond.selects RX5 yX5_shares yX5_shares, Cond.code yX5_shares cX5_shares 9 none, Cond.fieldLink RX5 33 "StrikePlanModel" "parts" "[I", Cond.methodLink RX5 65 yX5_isGrounded, Cond.instanceMethod yX5_isGrounded, Cond.selects RX5 yX5_isGrounded yX5_isGrounded, Cond.code yX5_isGrounded cX5_isGrounded 2 (some .boolean), Cond.methodLink RX5 59 yX5_lowest, Cond.instanceMethod yX5_lowest, Cond.selects RX5 yX5_lowest yX5_lowest, Cond.code yX5_lowest cX5_lowest 3 (some .int), Cond.methodLink RX5 55 yX5_isPropped, Cond.instanceMethod yX5_isPropped, Cond.selects RX5 yX5_isPropped yX5_isPropped, Cond.code yX5_isPropped cX5_isPropped 2 (some .boolean), Cond.methodLink RX5 44 yX5_of]
def wsX5_pours_r2 : List Cond := [Cond.instanceMethod yX5_of, Cond.selects RX5 yX5_of yX5_of, Cond.code yX5_of cX5_of 3 (some .int), Cond.methodLink RX5 62 yX5_highest, Cond.instanceMethod yX5_highest, Cond.selects RX5 yX5_highest yX5_highest, Cond.code yX5_highest cX5_highest 3 (some .int), Cond.methodLink RX5 48 yX5_age, Cond.instanceMethod yX5_age, Cond.selects RX5 yX5_age yX5_age, Cond.code yX5_age cX5_age 2 (some .int), Cond.methodLink RX5 68 yX5_strength, Cond.instanceMethod yX5_strength, Cond.selects RX5 yX5_strength yX5_strength, Cond.code yX5_strength cX5_strength 3 (some .int), Cond.methodLink RX5 52 yX5_hundredthsBy, Cond.static yX5_hundredthsBy, Cond.code yX5_hundredthsBy cX5_hundredthsBy 4 (some .int)]
def wsX5_pours : List Cond := .code yX5_pours cX5_pours 2 none :: ((wsX5_pours_r1 ++ wsX5_pours_r2) ++ wsX50)
def wsX5_strikes_r1 : List Cond := [Cond.methodLink RX5 79 yX5_force, Cond.instanceMethod yX5_force, Cond.selects RX5 yX5_force yX5_force, Cond.initialized RX5, Cond.code yX5_force cX5_force 4 (some .int), Cond.fieldLink RX5 7 "StrikePlanModel" "now" "[I", Cond.methodLink RX5 62 yX5_highest, Cond.instanceMethod yX5_highest, Cond.selects RX5 yX5_highest yX5_highest, Cond.code yX5_highest cX5_highest 3 (some .int), Cond.methodLink RX5 55 yX5_isPropped, Cond.instanceMethod yX5_isPropped, Cond.selects RX5 yX5_isPropped yX5_isPropped, Cond.code yX5_isPropped cX5_isPropped 2 (some .boolean), Cond.methodLink RX5 44 yX5_of, Cond.instanceMethod yX5_of, Cond.selects RX5 yX5_of yX5_of, Cond.code yX5_of cX5_of 3 (some .int), Cond.methodLink RX5 71 yX5_put, Cond.instanceMethod yX5_put, Cond.selects RX5 yX5_put yX5_put, Cond.code yX5_put cX5_put 4 none, Cond.methodLink RX5 75 yX5_shares, Cond.instanceMethod yX5_shares]
def wsX5_strikes_r2 : List Cond := [Cond.selects RX5 yX5_shares yX5_shares, Cond.code yX5_shares cX5_shares 9 none, Cond.fieldLink RX5 33 "StrikePlanModel" "parts" "[I", Cond.methodLink RX5 65 yX5_isGrounded, Cond.instanceMethod yX5_isGrounded, Cond.selects RX5 yX5_isGrounded yX5_isGrounded, Cond.code yX5_isGrounded cX5_isGrounded 2 (some .boolean), Cond.methodLink RX5 59 yX5_lowest, Cond.instanceMethod yX5_lowest, Cond.selects RX5 yX5_lowest yX5_lowest, Cond.code yX5_lowest cX5_lowest 3 (some .int), Cond.methodLink RX5 48 yX5_age, Cond.instanceMethod yX5_age, Cond.selects RX5 yX5_age yX5_age, Cond.code yX5_age cX5_age 2 (some .int), Cond.methodLink RX5 68 yX5_strength, Cond.instanceMethod yX5_strength, Cond.selects RX5 yX5_strength yX5_strength, Cond.code yX5_strength cX5_strength 3 (some .int), Cond.methodLink RX5 52 yX5_hundredthsBy, Cond.static yX5_hundredthsBy, Cond.code yX5_hundredthsBy cX5_hundredthsBy 4 (some .int)]
def wsX5_strikes : List Cond := .code yX5_strikes cX5_strikes 3 none :: ((wsX5_strikes_r1 ++ wsX5_strikes_r2) ++ wsX50)
def wsX5_mayStrike_r1 : List Cond := [Cond.methodLink RX5 82 yX5_isFloor, Cond.instanceMethod yX5_isFloor, Cond.selects RX5 yX5_isFloor yX5_isFloor, Cond.initialized RX5, Cond.code yX5_isFloor cX5_isFloor 2 (some .boolean), Cond.fieldLink RX5 7 "StrikePlanModel" "now" "[I", Cond.methodLink RX5 36 yX5_in, Cond.static yX5_in, Cond.code yX5_in cX5_in 3 (some .boolean), Cond.methodLink RX5 55 yX5_isPropped, Cond.instanceMethod yX5_isPropped, Cond.selects RX5 yX5_isPropped yX5_isPropped, Cond.code yX5_isPropped cX5_isPropped 2 (some .boolean), Cond.methodLink RX5 44 yX5_of, Cond.instanceMethod yX5_of, Cond.selects RX5 yX5_of yX5_of, Cond.code yX5_of cX5_of 3 (some .int), Cond.methodLink RX5 85 yX5_lays, Cond.instanceMethod yX5_lays, Cond.selects RX5 yX5_lays yX5_lays, Cond.code yX5_lays cX5_lays 2 none, Cond.fieldLink RX5 13 "StrikePlanModel" "aside" "[I", Cond.methodLink RX5 88 yX5_strikes, Cond.instanceMethod yX5_strikes]
def wsX5_mayStrike_r2 : List Cond := [Cond.selects RX5 yX5_strikes yX5_strikes, Cond.code yX5_strikes cX5_strikes 3 none, Cond.methodLink RX5 79 yX5_force, Cond.instanceMethod yX5_force, Cond.selects RX5 yX5_force yX5_force, Cond.code yX5_force cX5_force 4 (some .int), Cond.methodLink RX5 62 yX5_highest, Cond.instanceMethod yX5_highest, Cond.selects RX5 yX5_highest yX5_highest, Cond.code yX5_highest cX5_highest 3 (some .int), Cond.methodLink RX5 71 yX5_put, Cond.instanceMethod yX5_put, Cond.selects RX5 yX5_put yX5_put, Cond.code yX5_put cX5_put 4 none, Cond.methodLink RX5 75 yX5_shares, Cond.instanceMethod yX5_shares, Cond.selects RX5 yX5_shares yX5_shares, Cond.code yX5_shares cX5_shares 9 none, Cond.fieldLink RX5 33 "StrikePlanModel" "parts" "[I", Cond.methodLink RX5 65 yX5_isGrounded, Cond.instanceMethod yX5_isGrounded, Cond.selects RX5 yX5_isGrounded yX5_isGrounded, Cond.code yX5_isGrounded cX5_isGrounded 2 (some .boolean), Cond.methodLink RX5 59 yX5_lowest]
def wsX5_mayStrike_r3 : List Cond := [Cond.instanceMethod yX5_lowest, Cond.selects RX5 yX5_lowest yX5_lowest, Cond.code yX5_lowest cX5_lowest 3 (some .int), Cond.methodLink RX5 48 yX5_age, Cond.instanceMethod yX5_age, Cond.selects RX5 yX5_age yX5_age, Cond.code yX5_age cX5_age 2 (some .int), Cond.methodLink RX5 68 yX5_strength, Cond.instanceMethod yX5_strength, Cond.selects RX5 yX5_strength yX5_strength, Cond.code yX5_strength cX5_strength 3 (some .int), Cond.methodLink RX5 52 yX5_hundredthsBy, Cond.static yX5_hundredthsBy, Cond.code yX5_hundredthsBy cX5_hundredthsBy 4 (some .int), Cond.methodLink RX5 92 yX5_weak, Cond.instanceMethod yX5_weak, Cond.selects RX5 yX5_weak yX5_weak, Cond.code yX5_weak cX5_weak 3 (some .int), Cond.methodLink RX5 96 yX5_takesBack, Cond.instanceMethod yX5_takesBack, Cond.selects RX5 yX5_takesBack yX5_takesBack, Cond.code yX5_takesBack cX5_takesBack 2 none]
def wsX5_mayStrike : List Cond := .code yX5_mayStrike cX5_mayStrike 3 (some .boolean) :: ((wsX5_mayStrike_r1 ++ (wsX5_mayStrike_r2 ++ wsX5_mayStrike_r3)) ++ wsX50)
def wsX5_mayPour_r1 : List Cond := [Cond.fieldLink RX5 7 "StrikePlanModel" "now" "[I", Cond.methodLink RX5 85 yX5_lays, Cond.instanceMethod yX5_lays, Cond.selects RX5 yX5_lays yX5_lays, Cond.initialized RX5, Cond.code yX5_lays cX5_lays 2 none, Cond.fieldLink RX5 13 "StrikePlanModel" "aside" "[I", Cond.methodLink RX5 99 yX5_pours, Cond.instanceMethod yX5_pours, Cond.selects RX5 yX5_pours yX5_pours, Cond.code yX5_pours cX5_pours 2 none, Cond.methodLink RX5 71 yX5_put, Cond.instanceMethod yX5_put, Cond.selects RX5 yX5_put yX5_put, Cond.code yX5_put cX5_put 4 none, Cond.methodLink RX5 75 yX5_shares, Cond.instanceMethod yX5_shares, Cond.selects RX5 yX5_shares yX5_shares, Cond.code yX5_shares cX5_shares 9 none, Cond.fieldLink RX5 33 "StrikePlanModel" "parts" "[I", Cond.methodLink RX5 65 yX5_isGrounded, Cond.instanceMethod yX5_isGrounded, Cond.selects RX5 yX5_isGrounded yX5_isGrounded, Cond.code yX5_isGrounded cX5_isGrounded 2 (some .boolean)]
def wsX5_mayPour_r2 : List Cond := [Cond.methodLink RX5 59 yX5_lowest, Cond.instanceMethod yX5_lowest, Cond.selects RX5 yX5_lowest yX5_lowest, Cond.code yX5_lowest cX5_lowest 3 (some .int), Cond.methodLink RX5 55 yX5_isPropped, Cond.instanceMethod yX5_isPropped, Cond.selects RX5 yX5_isPropped yX5_isPropped, Cond.code yX5_isPropped cX5_isPropped 2 (some .boolean), Cond.methodLink RX5 44 yX5_of, Cond.instanceMethod yX5_of, Cond.selects RX5 yX5_of yX5_of, Cond.code yX5_of cX5_of 3 (some .int), Cond.methodLink RX5 62 yX5_highest, Cond.instanceMethod yX5_highest, Cond.selects RX5 yX5_highest yX5_highest, Cond.code yX5_highest cX5_highest 3 (some .int), Cond.methodLink RX5 48 yX5_age, Cond.instanceMethod yX5_age, Cond.selects RX5 yX5_age yX5_age, Cond.code yX5_age cX5_age 2 (some .int), Cond.methodLink RX5 68 yX5_strength, Cond.instanceMethod yX5_strength, Cond.selects RX5 yX5_strength yX5_strength, Cond.code yX5_strength cX5_strength 3 (some .int)]
def wsX5_mayPour_r3 : List Cond := [Cond.methodLink RX5 52 yX5_hundredthsBy, Cond.static yX5_hundredthsBy, Cond.code yX5_hundredthsBy cX5_hundredthsBy 4 (some .int), Cond.methodLink RX5 92 yX5_weak, Cond.instanceMethod yX5_weak, Cond.selects RX5 yX5_weak yX5_weak, Cond.code yX5_weak cX5_weak 3 (some .int), Cond.methodLink RX5 96 yX5_takesBack, Cond.instanceMethod yX5_takesBack, Cond.selects RX5 yX5_takesBack yX5_takesBack, Cond.code yX5_takesBack cX5_takesBack 2 none]
def wsX5_mayPour : List Cond := .code yX5_mayPour cX5_mayPour 2 (some .boolean) :: ((wsX5_mayPour_r1 ++ (wsX5_mayPour_r2 ++ wsX5_mayPour_r3)) ++ wsX50)
def wsX5_earliest_r1 : List Cond := [Cond.fieldLink RX5 7 "StrikePlanModel" "now" "[I", Cond.methodLink RX5 102 yX5_mayStrike, Cond.instanceMethod yX5_mayStrike, Cond.selects RX5 yX5_mayStrike yX5_mayStrike, Cond.initialized RX5, Cond.code yX5_mayStrike cX5_mayStrike 3 (some .boolean), Cond.methodLink RX5 82 yX5_isFloor, Cond.instanceMethod yX5_isFloor, Cond.selects RX5 yX5_isFloor yX5_isFloor, Cond.code yX5_isFloor cX5_isFloor 2 (some .boolean), Cond.methodLink RX5 36 yX5_in, Cond.static yX5_in, Cond.code yX5_in cX5_in 3 (some .boolean), Cond.methodLink RX5 55 yX5_isPropped, Cond.instanceMethod yX5_isPropped, Cond.selects RX5 yX5_isPropped yX5_isPropped, Cond.code yX5_isPropped cX5_isPropped 2 (some .boolean), Cond.methodLink RX5 44 yX5_of, Cond.instanceMethod yX5_of, Cond.selects RX5 yX5_of yX5_of, Cond.code yX5_of cX5_of 3 (some .int), Cond.methodLink RX5 85 yX5_lays, Cond.instanceMethod yX5_lays, Cond.selects RX5 yX5_lays yX5_lays]
def wsX5_earliest_r2 : List Cond := [Cond.code yX5_lays cX5_lays 2 none, Cond.fieldLink RX5 13 "StrikePlanModel" "aside" "[I", Cond.methodLink RX5 88 yX5_strikes, Cond.instanceMethod yX5_strikes, Cond.selects RX5 yX5_strikes yX5_strikes, Cond.code yX5_strikes cX5_strikes 3 none, Cond.methodLink RX5 79 yX5_force, Cond.instanceMethod yX5_force, Cond.selects RX5 yX5_force yX5_force, Cond.code yX5_force cX5_force 4 (some .int), Cond.methodLink RX5 62 yX5_highest, Cond.instanceMethod yX5_highest, Cond.selects RX5 yX5_highest yX5_highest, Cond.code yX5_highest cX5_highest 3 (some .int), Cond.methodLink RX5 71 yX5_put, Cond.instanceMethod yX5_put, Cond.selects RX5 yX5_put yX5_put, Cond.code yX5_put cX5_put 4 none, Cond.methodLink RX5 75 yX5_shares, Cond.instanceMethod yX5_shares, Cond.selects RX5 yX5_shares yX5_shares, Cond.code yX5_shares cX5_shares 9 none, Cond.fieldLink RX5 33 "StrikePlanModel" "parts" "[I", Cond.methodLink RX5 65 yX5_isGrounded]
def wsX5_earliest_r3 : List Cond := [Cond.instanceMethod yX5_isGrounded, Cond.selects RX5 yX5_isGrounded yX5_isGrounded, Cond.code yX5_isGrounded cX5_isGrounded 2 (some .boolean), Cond.methodLink RX5 59 yX5_lowest, Cond.instanceMethod yX5_lowest, Cond.selects RX5 yX5_lowest yX5_lowest, Cond.code yX5_lowest cX5_lowest 3 (some .int), Cond.methodLink RX5 48 yX5_age, Cond.instanceMethod yX5_age, Cond.selects RX5 yX5_age yX5_age, Cond.code yX5_age cX5_age 2 (some .int), Cond.methodLink RX5 68 yX5_strength, Cond.instanceMethod yX5_strength, Cond.selects RX5 yX5_strength yX5_strength, Cond.code yX5_strength cX5_strength 3 (some .int), Cond.methodLink RX5 52 yX5_hundredthsBy, Cond.static yX5_hundredthsBy, Cond.code yX5_hundredthsBy cX5_hundredthsBy 4 (some .int), Cond.methodLink RX5 92 yX5_weak, Cond.instanceMethod yX5_weak, Cond.selects RX5 yX5_weak yX5_weak, Cond.code yX5_weak cX5_weak 3 (some .int), Cond.methodLink RX5 96 yX5_takesBack, Cond.instanceMethod yX5_takesBack]
def wsX5_earliest_r4 : List Cond := [Cond.selects RX5 yX5_takesBack yX5_takesBack, Cond.code yX5_takesBack cX5_takesBack 2 none]
def wsX5_earliest : List Cond := .code yX5_earliest cX5_earliest 5 (some .int) :: ((wsX5_earliest_r1 ++ (wsX5_earliest_r2 ++ (wsX5_earliest_r3 ++ wsX5_earliest_r4))) ++ wsX50)
def wsX5_harm_r1 : List Cond := [Cond.fieldLink RX5 7 "StrikePlanModel" "now" "[I", Cond.methodLink RX5 55 yX5_isPropped, Cond.instanceMethod yX5_isPropped, Cond.selects RX5 yX5_isPropped yX5_isPropped, Cond.initialized RX5, Cond.code yX5_isPropped cX5_isPropped 2 (some .boolean), Cond.methodLink RX5 44 yX5_of, Cond.instanceMethod yX5_of, Cond.selects RX5 yX5_of yX5_of, Cond.code yX5_of cX5_of 3 (some .int), Cond.methodLink RX5 85 yX5_lays, Cond.instanceMethod yX5_lays, Cond.selects RX5 yX5_lays yX5_lays, Cond.code yX5_lays cX5_lays 2 none, Cond.fieldLink RX5 13 "StrikePlanModel" "aside" "[I", Cond.methodLink RX5 88 yX5_strikes, Cond.instanceMethod yX5_strikes, Cond.selects RX5 yX5_strikes yX5_strikes, Cond.code yX5_strikes cX5_strikes 3 none, Cond.methodLink RX5 79 yX5_force, Cond.instanceMethod yX5_force, Cond.selects RX5 yX5_force yX5_force, Cond.code yX5_force cX5_force 4 (some .int), Cond.methodLink RX5 62 yX5_highest]
def wsX5_harm_r2 : List Cond := [Cond.instanceMethod yX5_highest, Cond.selects RX5 yX5_highest yX5_highest, Cond.code yX5_highest cX5_highest 3 (some .int), Cond.methodLink RX5 71 yX5_put, Cond.instanceMethod yX5_put, Cond.selects RX5 yX5_put yX5_put, Cond.code yX5_put cX5_put 4 none, Cond.methodLink RX5 75 yX5_shares, Cond.instanceMethod yX5_shares, Cond.selects RX5 yX5_shares yX5_shares, Cond.code yX5_shares cX5_shares 9 none, Cond.fieldLink RX5 33 "StrikePlanModel" "parts" "[I", Cond.methodLink RX5 65 yX5_isGrounded, Cond.instanceMethod yX5_isGrounded, Cond.selects RX5 yX5_isGrounded yX5_isGrounded, Cond.code yX5_isGrounded cX5_isGrounded 2 (some .boolean), Cond.methodLink RX5 59 yX5_lowest, Cond.instanceMethod yX5_lowest, Cond.selects RX5 yX5_lowest yX5_lowest, Cond.code yX5_lowest cX5_lowest 3 (some .int), Cond.methodLink RX5 48 yX5_age, Cond.instanceMethod yX5_age, Cond.selects RX5 yX5_age yX5_age, Cond.code yX5_age cX5_age 2 (some .int)]
def wsX5_harm_r3 : List Cond := [Cond.methodLink RX5 68 yX5_strength, Cond.instanceMethod yX5_strength, Cond.selects RX5 yX5_strength yX5_strength, Cond.code yX5_strength cX5_strength 3 (some .int), Cond.methodLink RX5 52 yX5_hundredthsBy, Cond.static yX5_hundredthsBy, Cond.code yX5_hundredthsBy cX5_hundredthsBy 4 (some .int), Cond.methodLink RX5 96 yX5_takesBack, Cond.instanceMethod yX5_takesBack, Cond.selects RX5 yX5_takesBack yX5_takesBack, Cond.code yX5_takesBack cX5_takesBack 2 none]
def wsX5_harm : List Cond := .code yX5_harm cX5_harm 5 (some .int) :: ((wsX5_harm_r1 ++ (wsX5_harm_r2 ++ wsX5_harm_r3)) ++ wsX50)
def wsX5_propped : List Cond := .code yX5_propped cX5_propped 3 (some .int) :: ([.fieldLink RX5 7 "StrikePlanModel" "now" "[I", .methodLink RX5 55 yX5_isPropped, .instanceMethod yX5_isPropped, .selects RX5 yX5_isPropped yX5_isPropped, .initialized RX5, .code yX5_isPropped cX5_isPropped 2 (some .boolean), .methodLink RX5 44 yX5_of, .instanceMethod yX5_of, .selects RX5 yX5_of yX5_of, .code yX5_of cX5_of 3 (some .int)] ++ wsX50)
def wsX5_may_r1 : List Cond := [Cond.fieldLink RX5 7 "StrikePlanModel" "now" "[I", Cond.methodLink RX5 102 yX5_mayStrike, Cond.instanceMethod yX5_mayStrike, Cond.selects RX5 yX5_mayStrike yX5_mayStrike, Cond.initialized RX5, Cond.code yX5_mayStrike cX5_mayStrike 3 (some .boolean), Cond.methodLink RX5 82 yX5_isFloor, Cond.instanceMethod yX5_isFloor, Cond.selects RX5 yX5_isFloor yX5_isFloor, Cond.code yX5_isFloor cX5_isFloor 2 (some .boolean), Cond.methodLink RX5 36 yX5_in, Cond.static yX5_in, Cond.code yX5_in cX5_in 3 (some .boolean), Cond.methodLink RX5 55 yX5_isPropped, Cond.instanceMethod yX5_isPropped, Cond.selects RX5 yX5_isPropped yX5_isPropped, Cond.code yX5_isPropped cX5_isPropped 2 (some .boolean), Cond.methodLink RX5 44 yX5_of, Cond.instanceMethod yX5_of, Cond.selects RX5 yX5_of yX5_of, Cond.code yX5_of cX5_of 3 (some .int), Cond.methodLink RX5 85 yX5_lays, Cond.instanceMethod yX5_lays, Cond.selects RX5 yX5_lays yX5_lays]
def wsX5_may_r2 : List Cond := [Cond.code yX5_lays cX5_lays 2 none, Cond.fieldLink RX5 13 "StrikePlanModel" "aside" "[I", Cond.methodLink RX5 88 yX5_strikes, Cond.instanceMethod yX5_strikes, Cond.selects RX5 yX5_strikes yX5_strikes, Cond.code yX5_strikes cX5_strikes 3 none, Cond.methodLink RX5 79 yX5_force, Cond.instanceMethod yX5_force, Cond.selects RX5 yX5_force yX5_force, Cond.code yX5_force cX5_force 4 (some .int), Cond.methodLink RX5 62 yX5_highest, Cond.instanceMethod yX5_highest, Cond.selects RX5 yX5_highest yX5_highest, Cond.code yX5_highest cX5_highest 3 (some .int), Cond.methodLink RX5 71 yX5_put, Cond.instanceMethod yX5_put, Cond.selects RX5 yX5_put yX5_put, Cond.code yX5_put cX5_put 4 none, Cond.methodLink RX5 75 yX5_shares, Cond.instanceMethod yX5_shares, Cond.selects RX5 yX5_shares yX5_shares, Cond.code yX5_shares cX5_shares 9 none, Cond.fieldLink RX5 33 "StrikePlanModel" "parts" "[I", Cond.methodLink RX5 65 yX5_isGrounded]
def wsX5_may_r3 : List Cond := [Cond.instanceMethod yX5_isGrounded, Cond.selects RX5 yX5_isGrounded yX5_isGrounded, Cond.code yX5_isGrounded cX5_isGrounded 2 (some .boolean), Cond.methodLink RX5 59 yX5_lowest, Cond.instanceMethod yX5_lowest, Cond.selects RX5 yX5_lowest yX5_lowest, Cond.code yX5_lowest cX5_lowest 3 (some .int), Cond.methodLink RX5 48 yX5_age, Cond.instanceMethod yX5_age, Cond.selects RX5 yX5_age yX5_age, Cond.code yX5_age cX5_age 2 (some .int), Cond.methodLink RX5 68 yX5_strength, Cond.instanceMethod yX5_strength, Cond.selects RX5 yX5_strength yX5_strength, Cond.code yX5_strength cX5_strength 3 (some .int), Cond.methodLink RX5 52 yX5_hundredthsBy, Cond.static yX5_hundredthsBy, Cond.code yX5_hundredthsBy cX5_hundredthsBy 4 (some .int), Cond.methodLink RX5 92 yX5_weak, Cond.instanceMethod yX5_weak, Cond.selects RX5 yX5_weak yX5_weak, Cond.code yX5_weak cX5_weak 3 (some .int), Cond.methodLink RX5 96 yX5_takesBack, Cond.instanceMethod yX5_takesBack]
def wsX5_may_r4 : List Cond := [Cond.selects RX5 yX5_takesBack yX5_takesBack, Cond.code yX5_takesBack cX5_takesBack 2 none]
def wsX5_may : List Cond := .code yX5_may cX5_may 3 (some .int) :: ((wsX5_may_r1 ++ (wsX5_may_r2 ++ (wsX5_may_r3 ++ wsX5_may_r4))) ++ wsX50)
def wsX5_wrong : List Cond := .code yX5_wrong cX5_wrong 2 (some .int) :: ([.fieldLink RX5 105 "StrikePlanModel" "entries" "I", .fieldLink RX5 30 "StrikePlanModel" "book" "[I", .methodLink RX5 82 yX5_isFloor, .instanceMethod yX5_isFloor, .selects RX5 yX5_isFloor yX5_isFloor, .initialized RX5, .code yX5_isFloor cX5_isFloor 2 (some .boolean), .fieldLink RX5 7 "StrikePlanModel" "now" "[I", .methodLink RX5 36 yX5_in, .static yX5_in, .code yX5_in cX5_in 3 (some .boolean), .methodLink RX5 44 yX5_of, .instanceMethod yX5_of, .selects RX5 yX5_of yX5_of, .code yX5_of cX5_of 3 (some .int)] ++ wsX50)
def wsX5_told_r1 : List Cond := [Cond.fieldLink RX5 7 "StrikePlanModel" "now" "[I", Cond.fieldLink RX5 105 "StrikePlanModel" "entries" "I", Cond.fieldLink RX5 40 "StrikePlanModel" "deeds" "I", Cond.constant RX5 117 (-1000000002), Cond.methodLink RX5 108 yX5_propped, Cond.instanceMethod yX5_propped, Cond.selects RX5 yX5_propped yX5_propped, Cond.initialized RX5, Cond.code yX5_propped cX5_propped 3 (some .int), Cond.methodLink RX5 55 yX5_isPropped, Cond.instanceMethod yX5_isPropped, Cond.selects RX5 yX5_isPropped yX5_isPropped, Cond.code yX5_isPropped cX5_isPropped 2 (some .boolean), Cond.methodLink RX5 44 yX5_of, Cond.instanceMethod yX5_of, Cond.selects RX5 yX5_of yX5_of, Cond.code yX5_of cX5_of 3 (some .int), Cond.methodLink RX5 92 yX5_weak, Cond.instanceMethod yX5_weak, Cond.selects RX5 yX5_weak yX5_weak, Cond.code yX5_weak cX5_weak 3 (some .int), Cond.methodLink RX5 68 yX5_strength, Cond.instanceMethod yX5_strength, Cond.selects RX5 yX5_strength yX5_strength]
def wsX5_told_r2 : List Cond := [Cond.code yX5_strength cX5_strength 3 (some .int), Cond.methodLink RX5 48 yX5_age, Cond.instanceMethod yX5_age, Cond.selects RX5 yX5_age yX5_age, Cond.code yX5_age cX5_age 2 (some .int), Cond.methodLink RX5 52 yX5_hundredthsBy, Cond.static yX5_hundredthsBy, Cond.code yX5_hundredthsBy cX5_hundredthsBy 4 (some .int), Cond.methodLink RX5 111 yX5_may, Cond.instanceMethod yX5_may, Cond.selects RX5 yX5_may yX5_may, Cond.code yX5_may cX5_may 3 (some .int), Cond.methodLink RX5 102 yX5_mayStrike, Cond.instanceMethod yX5_mayStrike, Cond.selects RX5 yX5_mayStrike yX5_mayStrike, Cond.code yX5_mayStrike cX5_mayStrike 3 (some .boolean), Cond.methodLink RX5 82 yX5_isFloor, Cond.instanceMethod yX5_isFloor, Cond.selects RX5 yX5_isFloor yX5_isFloor, Cond.code yX5_isFloor cX5_isFloor 2 (some .boolean), Cond.methodLink RX5 36 yX5_in, Cond.static yX5_in, Cond.code yX5_in cX5_in 3 (some .boolean), Cond.methodLink RX5 85 yX5_lays]
def wsX5_told_r3 : List Cond := [Cond.instanceMethod yX5_lays, Cond.selects RX5 yX5_lays yX5_lays, Cond.code yX5_lays cX5_lays 2 none, Cond.fieldLink RX5 13 "StrikePlanModel" "aside" "[I", Cond.methodLink RX5 88 yX5_strikes, Cond.instanceMethod yX5_strikes, Cond.selects RX5 yX5_strikes yX5_strikes, Cond.code yX5_strikes cX5_strikes 3 none, Cond.methodLink RX5 79 yX5_force, Cond.instanceMethod yX5_force, Cond.selects RX5 yX5_force yX5_force, Cond.code yX5_force cX5_force 4 (some .int), Cond.methodLink RX5 62 yX5_highest, Cond.instanceMethod yX5_highest, Cond.selects RX5 yX5_highest yX5_highest, Cond.code yX5_highest cX5_highest 3 (some .int), Cond.methodLink RX5 71 yX5_put, Cond.instanceMethod yX5_put, Cond.selects RX5 yX5_put yX5_put, Cond.code yX5_put cX5_put 4 none, Cond.methodLink RX5 75 yX5_shares, Cond.instanceMethod yX5_shares, Cond.selects RX5 yX5_shares yX5_shares, Cond.code yX5_shares cX5_shares 9 none]
def wsX5_told_r4 : List Cond := [Cond.fieldLink RX5 33 "StrikePlanModel" "parts" "[I", Cond.methodLink RX5 65 yX5_isGrounded, Cond.instanceMethod yX5_isGrounded, Cond.selects RX5 yX5_isGrounded yX5_isGrounded, Cond.code yX5_isGrounded cX5_isGrounded 2 (some .boolean), Cond.methodLink RX5 59 yX5_lowest, Cond.instanceMethod yX5_lowest, Cond.selects RX5 yX5_lowest yX5_lowest, Cond.code yX5_lowest cX5_lowest 3 (some .int), Cond.methodLink RX5 96 yX5_takesBack, Cond.instanceMethod yX5_takesBack, Cond.selects RX5 yX5_takesBack yX5_takesBack, Cond.code yX5_takesBack cX5_takesBack 2 none, Cond.methodLink RX5 114 yX5_wrong, Cond.instanceMethod yX5_wrong, Cond.selects RX5 yX5_wrong yX5_wrong, Cond.code yX5_wrong cX5_wrong 2 (some .int), Cond.fieldLink RX5 30 "StrikePlanModel" "book" "[I"]
def wsX5_told : List Cond := .code yX5_told cX5_told 2 (some .int) :: ((wsX5_told_r1 ++ (wsX5_told_r2 ++ (wsX5_told_r3 ++ wsX5_told_r4))) ++ wsX50)
def wsX5_floor_r1 : List Cond := [Cond.constant RX5 118 (-1000000001), Cond.constant RX5 117 (-1000000002), Cond.methodLink RX5 82 yX5_isFloor, Cond.instanceMethod yX5_isFloor, Cond.selects RX5 yX5_isFloor yX5_isFloor, Cond.initialized RX5, Cond.code yX5_isFloor cX5_isFloor 2 (some .boolean), Cond.fieldLink RX5 7 "StrikePlanModel" "now" "[I", Cond.methodLink RX5 36 yX5_in, Cond.static yX5_in, Cond.code yX5_in cX5_in 3 (some .boolean), Cond.methodLink RX5 48 yX5_age, Cond.instanceMethod yX5_age, Cond.selects RX5 yX5_age yX5_age, Cond.code yX5_age cX5_age 2 (some .int), Cond.methodLink RX5 44 yX5_of, Cond.instanceMethod yX5_of, Cond.selects RX5 yX5_of yX5_of, Cond.code yX5_of cX5_of 3 (some .int), Cond.methodLink RX5 68 yX5_strength, Cond.instanceMethod yX5_strength, Cond.selects RX5 yX5_strength yX5_strength, Cond.code yX5_strength cX5_strength 3 (some .int), Cond.methodLink RX5 52 yX5_hundredthsBy]
def wsX5_floor_r2 : List Cond := [Cond.static yX5_hundredthsBy, Cond.code yX5_hundredthsBy cX5_hundredthsBy 4 (some .int), Cond.methodLink RX5 79 yX5_force, Cond.instanceMethod yX5_force, Cond.selects RX5 yX5_force yX5_force, Cond.code yX5_force cX5_force 4 (some .int), Cond.methodLink RX5 62 yX5_highest, Cond.instanceMethod yX5_highest, Cond.selects RX5 yX5_highest yX5_highest, Cond.code yX5_highest cX5_highest 3 (some .int), Cond.methodLink RX5 55 yX5_isPropped, Cond.instanceMethod yX5_isPropped, Cond.selects RX5 yX5_isPropped yX5_isPropped, Cond.code yX5_isPropped cX5_isPropped 2 (some .boolean), Cond.methodLink RX5 59 yX5_lowest, Cond.instanceMethod yX5_lowest, Cond.selects RX5 yX5_lowest yX5_lowest, Cond.code yX5_lowest cX5_lowest 3 (some .int), Cond.methodLink RX5 65 yX5_isGrounded, Cond.instanceMethod yX5_isGrounded, Cond.selects RX5 yX5_isGrounded yX5_isGrounded, Cond.code yX5_isGrounded cX5_isGrounded 2 (some .boolean), Cond.methodLink RX5 119 yX5_earliest, Cond.instanceMethod yX5_earliest]
def wsX5_floor_r3 : List Cond := [Cond.selects RX5 yX5_earliest yX5_earliest, Cond.code yX5_earliest cX5_earliest 5 (some .int), Cond.methodLink RX5 102 yX5_mayStrike, Cond.instanceMethod yX5_mayStrike, Cond.selects RX5 yX5_mayStrike yX5_mayStrike, Cond.code yX5_mayStrike cX5_mayStrike 3 (some .boolean), Cond.methodLink RX5 85 yX5_lays, Cond.instanceMethod yX5_lays, Cond.selects RX5 yX5_lays yX5_lays, Cond.code yX5_lays cX5_lays 2 none, Cond.fieldLink RX5 13 "StrikePlanModel" "aside" "[I", Cond.methodLink RX5 88 yX5_strikes, Cond.instanceMethod yX5_strikes, Cond.selects RX5 yX5_strikes yX5_strikes, Cond.code yX5_strikes cX5_strikes 3 none, Cond.methodLink RX5 71 yX5_put, Cond.instanceMethod yX5_put, Cond.selects RX5 yX5_put yX5_put, Cond.code yX5_put cX5_put 4 none, Cond.methodLink RX5 75 yX5_shares, Cond.instanceMethod yX5_shares, Cond.selects RX5 yX5_shares yX5_shares, Cond.code yX5_shares cX5_shares 9 none, Cond.fieldLink RX5 33 "StrikePlanModel" "parts" "[I"]
def wsX5_floor_r4 : List Cond := [Cond.methodLink RX5 92 yX5_weak, Cond.instanceMethod yX5_weak, Cond.selects RX5 yX5_weak yX5_weak, Cond.code yX5_weak cX5_weak 3 (some .int), Cond.methodLink RX5 96 yX5_takesBack, Cond.instanceMethod yX5_takesBack, Cond.selects RX5 yX5_takesBack yX5_takesBack, Cond.code yX5_takesBack cX5_takesBack 2 none, Cond.methodLink RX5 122 yX5_harm, Cond.instanceMethod yX5_harm, Cond.selects RX5 yX5_harm yX5_harm, Cond.code yX5_harm cX5_harm 5 (some .int)]
def wsX5_floor : List Cond := .code yX5_floor cX5_floor 3 (some .int) :: ((wsX5_floor_r1 ++ (wsX5_floor_r2 ++ (wsX5_floor_r3 ++ wsX5_floor_r4))) ++ wsX50)
def wsX5_hundredths : List Cond := .code yX5_hundredths cX5_hundredths 3 (some .int) :: ([.constant RX5 117 (-1000000002), .methodLink RX5 36 yX5_in, .static yX5_in, .initialized RX5, .code yX5_in cX5_in 3 (some .boolean), .methodLink RX5 52 yX5_hundredthsBy, .static yX5_hundredthsBy, .code yX5_hundredthsBy cX5_hundredthsBy 4 (some .int)])
def wsX5_would_r1 : List Cond := [Cond.constant RX5 118 (-1000000001), Cond.methodLink RX5 82 yX5_isFloor, Cond.instanceMethod yX5_isFloor, Cond.selects RX5 yX5_isFloor yX5_isFloor, Cond.initialized RX5, Cond.code yX5_isFloor cX5_isFloor 2 (some .boolean), Cond.fieldLink RX5 7 "StrikePlanModel" "now" "[I", Cond.methodLink RX5 36 yX5_in, Cond.static yX5_in, Cond.code yX5_in cX5_in 3 (some .boolean), Cond.methodLink RX5 55 yX5_isPropped, Cond.instanceMethod yX5_isPropped, Cond.selects RX5 yX5_isPropped yX5_isPropped, Cond.code yX5_isPropped cX5_isPropped 2 (some .boolean), Cond.methodLink RX5 44 yX5_of, Cond.instanceMethod yX5_of, Cond.selects RX5 yX5_of yX5_of, Cond.code yX5_of cX5_of 3 (some .int), Cond.methodLink RX5 85 yX5_lays, Cond.instanceMethod yX5_lays, Cond.selects RX5 yX5_lays yX5_lays, Cond.code yX5_lays cX5_lays 2 none, Cond.fieldLink RX5 13 "StrikePlanModel" "aside" "[I", Cond.methodLink RX5 88 yX5_strikes]
def wsX5_would_r2 : List Cond := [Cond.instanceMethod yX5_strikes, Cond.selects RX5 yX5_strikes yX5_strikes, Cond.code yX5_strikes cX5_strikes 3 none, Cond.methodLink RX5 79 yX5_force, Cond.instanceMethod yX5_force, Cond.selects RX5 yX5_force yX5_force, Cond.code yX5_force cX5_force 4 (some .int), Cond.methodLink RX5 62 yX5_highest, Cond.instanceMethod yX5_highest, Cond.selects RX5 yX5_highest yX5_highest, Cond.code yX5_highest cX5_highest 3 (some .int), Cond.methodLink RX5 71 yX5_put, Cond.instanceMethod yX5_put, Cond.selects RX5 yX5_put yX5_put, Cond.code yX5_put cX5_put 4 none, Cond.methodLink RX5 75 yX5_shares, Cond.instanceMethod yX5_shares, Cond.selects RX5 yX5_shares yX5_shares, Cond.code yX5_shares cX5_shares 9 none, Cond.fieldLink RX5 33 "StrikePlanModel" "parts" "[I", Cond.methodLink RX5 65 yX5_isGrounded, Cond.instanceMethod yX5_isGrounded, Cond.selects RX5 yX5_isGrounded yX5_isGrounded, Cond.code yX5_isGrounded cX5_isGrounded 2 (some .boolean)]
def wsX5_would_r3 : List Cond := [Cond.methodLink RX5 59 yX5_lowest, Cond.instanceMethod yX5_lowest, Cond.selects RX5 yX5_lowest yX5_lowest, Cond.code yX5_lowest cX5_lowest 3 (some .int), Cond.methodLink RX5 48 yX5_age, Cond.instanceMethod yX5_age, Cond.selects RX5 yX5_age yX5_age, Cond.code yX5_age cX5_age 2 (some .int), Cond.methodLink RX5 68 yX5_strength, Cond.instanceMethod yX5_strength, Cond.selects RX5 yX5_strength yX5_strength, Cond.code yX5_strength cX5_strength 3 (some .int), Cond.methodLink RX5 52 yX5_hundredthsBy, Cond.static yX5_hundredthsBy, Cond.code yX5_hundredthsBy cX5_hundredthsBy 4 (some .int), Cond.methodLink RX5 96 yX5_takesBack, Cond.instanceMethod yX5_takesBack, Cond.selects RX5 yX5_takesBack yX5_takesBack, Cond.code yX5_takesBack cX5_takesBack 2 none]
def wsX5_would : List Cond := .code yX5_would cX5_would 4 (some .int) :: ((wsX5_would_r1 ++ (wsX5_would_r2 ++ wsX5_would_r3)) ++ wsX50)
def wsX5_holds_r1 : List Cond := [Cond.fieldLink RX5 7 "StrikePlanModel" "now" "[I", Cond.methodLink RX5 55 yX5_isPropped, Cond.instanceMethod yX5_isPropped, Cond.selects RX5 yX5_isPropped yX5_isPropped, Cond.initialized RX5, Cond.code yX5_isPropped cX5_isPropped 2 (some .boolean), Cond.methodLink RX5 44 yX5_of, Cond.instanceMethod yX5_of, Cond.selects RX5 yX5_of yX5_of, Cond.code yX5_of cX5_of 3 (some .int), Cond.methodLink RX5 88 yX5_strikes, Cond.instanceMethod yX5_strikes, Cond.selects RX5 yX5_strikes yX5_strikes, Cond.code yX5_strikes cX5_strikes 3 none, Cond.methodLink RX5 79 yX5_force, Cond.instanceMethod yX5_force, Cond.selects RX5 yX5_force yX5_force, Cond.code yX5_force cX5_force 4 (some .int), Cond.methodLink RX5 62 yX5_highest, Cond.instanceMethod yX5_highest, Cond.selects RX5 yX5_highest yX5_highest, Cond.code yX5_highest cX5_highest 3 (some .int), Cond.methodLink RX5 71 yX5_put, Cond.instanceMethod yX5_put]
def wsX5_holds_r2 : List Cond := [Cond.selects RX5 yX5_put yX5_put, Cond.code yX5_put cX5_put 4 none, Cond.methodLink RX5 75 yX5_shares, Cond.instanceMethod yX5_shares, Cond.selects RX5 yX5_shares yX5_shares, Cond.code yX5_shares cX5_shares 9 none, Cond.fieldLink RX5 33 "StrikePlanModel" "parts" "[I", Cond.methodLink RX5 65 yX5_isGrounded, Cond.instanceMethod yX5_isGrounded, Cond.selects RX5 yX5_isGrounded yX5_isGrounded, Cond.code yX5_isGrounded cX5_isGrounded 2 (some .boolean), Cond.methodLink RX5 59 yX5_lowest, Cond.instanceMethod yX5_lowest, Cond.selects RX5 yX5_lowest yX5_lowest, Cond.code yX5_lowest cX5_lowest 3 (some .int), Cond.methodLink RX5 48 yX5_age, Cond.instanceMethod yX5_age, Cond.selects RX5 yX5_age yX5_age, Cond.code yX5_age cX5_age 2 (some .int), Cond.methodLink RX5 68 yX5_strength, Cond.instanceMethod yX5_strength, Cond.selects RX5 yX5_strength yX5_strength, Cond.code yX5_strength cX5_strength 3 (some .int), Cond.methodLink RX5 52 yX5_hundredthsBy]
def wsX5_holds_r3 : List Cond := [Cond.static yX5_hundredthsBy, Cond.code yX5_hundredthsBy cX5_hundredthsBy 4 (some .int), Cond.methodLink RX5 92 yX5_weak, Cond.instanceMethod yX5_weak, Cond.selects RX5 yX5_weak yX5_weak, Cond.code yX5_weak cX5_weak 3 (some .int), Cond.methodLink RX5 99 yX5_pours, Cond.instanceMethod yX5_pours, Cond.selects RX5 yX5_pours yX5_pours, Cond.code yX5_pours cX5_pours 2 none]
def wsX5_holds : List Cond := .code yX5_holds cX5_holds 8 (some .boolean) :: ((wsX5_holds_r1 ++ (wsX5_holds_r2 ++ wsX5_holds_r3)) ++ wsX50)
def wsX5_cycle_r1 : List Cond := [Cond.constant RX5 117 (-1000000002), Cond.methodLink RX5 36 yX5_in, Cond.static yX5_in, Cond.initialized RX5, Cond.code yX5_in cX5_in 3 (some .boolean), Cond.methodLink RX5 85 yX5_lays, Cond.instanceMethod yX5_lays, Cond.selects RX5 yX5_lays yX5_lays, Cond.code yX5_lays cX5_lays 2 none, Cond.fieldLink RX5 13 "StrikePlanModel" "aside" "[I", Cond.fieldLink RX5 7 "StrikePlanModel" "now" "[I", Cond.methodLink RX5 125 yX5_holds, Cond.instanceMethod yX5_holds, Cond.selects RX5 yX5_holds yX5_holds, Cond.code yX5_holds cX5_holds 8 (some .boolean), Cond.methodLink RX5 55 yX5_isPropped, Cond.instanceMethod yX5_isPropped, Cond.selects RX5 yX5_isPropped yX5_isPropped, Cond.code yX5_isPropped cX5_isPropped 2 (some .boolean), Cond.methodLink RX5 44 yX5_of, Cond.instanceMethod yX5_of, Cond.selects RX5 yX5_of yX5_of, Cond.code yX5_of cX5_of 3 (some .int), Cond.methodLink RX5 88 yX5_strikes]
def wsX5_cycle_r2 : List Cond := [Cond.instanceMethod yX5_strikes, Cond.selects RX5 yX5_strikes yX5_strikes, Cond.code yX5_strikes cX5_strikes 3 none, Cond.methodLink RX5 79 yX5_force, Cond.instanceMethod yX5_force, Cond.selects RX5 yX5_force yX5_force, Cond.code yX5_force cX5_force 4 (some .int), Cond.methodLink RX5 62 yX5_highest, Cond.instanceMethod yX5_highest, Cond.selects RX5 yX5_highest yX5_highest, Cond.code yX5_highest cX5_highest 3 (some .int), Cond.methodLink RX5 71 yX5_put, Cond.instanceMethod yX5_put, Cond.selects RX5 yX5_put yX5_put, Cond.code yX5_put cX5_put 4 none, Cond.methodLink RX5 75 yX5_shares, Cond.instanceMethod yX5_shares, Cond.selects RX5 yX5_shares yX5_shares, Cond.code yX5_shares cX5_shares 9 none, Cond.fieldLink RX5 33 "StrikePlanModel" "parts" "[I", Cond.methodLink RX5 65 yX5_isGrounded, Cond.instanceMethod yX5_isGrounded, Cond.selects RX5 yX5_isGrounded yX5_isGrounded, Cond.code yX5_isGrounded cX5_isGrounded 2 (some .boolean)]
def wsX5_cycle_r3 : List Cond := [Cond.methodLink RX5 59 yX5_lowest, Cond.instanceMethod yX5_lowest, Cond.selects RX5 yX5_lowest yX5_lowest, Cond.code yX5_lowest cX5_lowest 3 (some .int), Cond.methodLink RX5 48 yX5_age, Cond.instanceMethod yX5_age, Cond.selects RX5 yX5_age yX5_age, Cond.code yX5_age cX5_age 2 (some .int), Cond.methodLink RX5 68 yX5_strength, Cond.instanceMethod yX5_strength, Cond.selects RX5 yX5_strength yX5_strength, Cond.code yX5_strength cX5_strength 3 (some .int), Cond.methodLink RX5 52 yX5_hundredthsBy, Cond.static yX5_hundredthsBy, Cond.code yX5_hundredthsBy cX5_hundredthsBy 4 (some .int), Cond.methodLink RX5 92 yX5_weak, Cond.instanceMethod yX5_weak, Cond.selects RX5 yX5_weak yX5_weak, Cond.code yX5_weak cX5_weak 3 (some .int), Cond.methodLink RX5 99 yX5_pours, Cond.instanceMethod yX5_pours, Cond.selects RX5 yX5_pours yX5_pours, Cond.code yX5_pours cX5_pours 2 none, Cond.methodLink RX5 96 yX5_takesBack]
def wsX5_cycle_r4 : List Cond := [Cond.instanceMethod yX5_takesBack, Cond.selects RX5 yX5_takesBack yX5_takesBack, Cond.code yX5_takesBack cX5_takesBack 2 none]
def wsX5_cycle : List Cond := .code yX5_cycle cX5_cycle 4 (some .int) :: ((wsX5_cycle_r1 ++ (wsX5_cycle_r2 ++ (wsX5_cycle_r3 ++ wsX5_cycle_r4))) ++ wsX50)
def wsX5_days : List Cond := .code yX5_days cX5_days 2 (some .int) :: ([.constant RX5 117 (-1000000002), .fieldLink RX5 7 "StrikePlanModel" "now" "[I", .methodLink RX5 36 yX5_in, .static yX5_in, .initialized RX5, .code yX5_in cX5_in 3 (some .boolean), .methodLink RX5 129 yX5_notes, .instanceMethod yX5_notes, .selects RX5 yX5_notes yX5_notes, .code yX5_notes cX5_notes 2 none, .fieldLink RX5 40 "StrikePlanModel" "deeds" "I", .fieldLink RX5 16 "StrikePlanModel" "past" "[I"] ++ wsX50)
def wsX5_pour_r1 : List Cond := [Cond.fieldLink RX5 7 "StrikePlanModel" "now" "[I", Cond.constant RX5 132 (-1000000004), Cond.constant RX5 137 (-1000000003), Cond.methodLink RX5 133 yX5_mayPour, Cond.instanceMethod yX5_mayPour, Cond.selects RX5 yX5_mayPour yX5_mayPour, Cond.initialized RX5, Cond.code yX5_mayPour cX5_mayPour 2 (some .boolean), Cond.methodLink RX5 85 yX5_lays, Cond.instanceMethod yX5_lays, Cond.selects RX5 yX5_lays yX5_lays, Cond.code yX5_lays cX5_lays 2 none, Cond.fieldLink RX5 13 "StrikePlanModel" "aside" "[I", Cond.methodLink RX5 99 yX5_pours, Cond.instanceMethod yX5_pours, Cond.selects RX5 yX5_pours yX5_pours, Cond.code yX5_pours cX5_pours 2 none, Cond.methodLink RX5 71 yX5_put, Cond.instanceMethod yX5_put, Cond.selects RX5 yX5_put yX5_put, Cond.code yX5_put cX5_put 4 none, Cond.methodLink RX5 75 yX5_shares, Cond.instanceMethod yX5_shares, Cond.selects RX5 yX5_shares yX5_shares]
def wsX5_pour_r2 : List Cond := [Cond.code yX5_shares cX5_shares 9 none, Cond.fieldLink RX5 33 "StrikePlanModel" "parts" "[I", Cond.methodLink RX5 65 yX5_isGrounded, Cond.instanceMethod yX5_isGrounded, Cond.selects RX5 yX5_isGrounded yX5_isGrounded, Cond.code yX5_isGrounded cX5_isGrounded 2 (some .boolean), Cond.methodLink RX5 59 yX5_lowest, Cond.instanceMethod yX5_lowest, Cond.selects RX5 yX5_lowest yX5_lowest, Cond.code yX5_lowest cX5_lowest 3 (some .int), Cond.methodLink RX5 55 yX5_isPropped, Cond.instanceMethod yX5_isPropped, Cond.selects RX5 yX5_isPropped yX5_isPropped, Cond.code yX5_isPropped cX5_isPropped 2 (some .boolean), Cond.methodLink RX5 44 yX5_of, Cond.instanceMethod yX5_of, Cond.selects RX5 yX5_of yX5_of, Cond.code yX5_of cX5_of 3 (some .int), Cond.methodLink RX5 62 yX5_highest, Cond.instanceMethod yX5_highest, Cond.selects RX5 yX5_highest yX5_highest, Cond.code yX5_highest cX5_highest 3 (some .int), Cond.methodLink RX5 48 yX5_age, Cond.instanceMethod yX5_age]
def wsX5_pour_r3 : List Cond := [Cond.selects RX5 yX5_age yX5_age, Cond.code yX5_age cX5_age 2 (some .int), Cond.methodLink RX5 68 yX5_strength, Cond.instanceMethod yX5_strength, Cond.selects RX5 yX5_strength yX5_strength, Cond.code yX5_strength cX5_strength 3 (some .int), Cond.methodLink RX5 52 yX5_hundredthsBy, Cond.static yX5_hundredthsBy, Cond.code yX5_hundredthsBy cX5_hundredthsBy 4 (some .int), Cond.methodLink RX5 92 yX5_weak, Cond.instanceMethod yX5_weak, Cond.selects RX5 yX5_weak yX5_weak, Cond.code yX5_weak cX5_weak 3 (some .int), Cond.methodLink RX5 96 yX5_takesBack, Cond.instanceMethod yX5_takesBack, Cond.selects RX5 yX5_takesBack yX5_takesBack, Cond.code yX5_takesBack cX5_takesBack 2 none, Cond.methodLink RX5 129 yX5_notes, Cond.instanceMethod yX5_notes, Cond.selects RX5 yX5_notes yX5_notes, Cond.code yX5_notes cX5_notes 2 none, Cond.fieldLink RX5 40 "StrikePlanModel" "deeds" "I", Cond.fieldLink RX5 16 "StrikePlanModel" "past" "[I"]
def wsX5_pour : List Cond := .code yX5_pour cX5_pour 1 (some .int) :: ((wsX5_pour_r1 ++ (wsX5_pour_r2 ++ wsX5_pour_r3)) ++ wsX50)
def wsX5_strike_r1 : List Cond := [Cond.constant RX5 118 (-1000000001), Cond.constant RX5 137 (-1000000003), Cond.methodLink RX5 82 yX5_isFloor, Cond.instanceMethod yX5_isFloor, Cond.selects RX5 yX5_isFloor yX5_isFloor, Cond.initialized RX5, Cond.code yX5_isFloor cX5_isFloor 2 (some .boolean), Cond.fieldLink RX5 7 "StrikePlanModel" "now" "[I", Cond.methodLink RX5 36 yX5_in, Cond.static yX5_in, Cond.code yX5_in cX5_in 3 (some .boolean), Cond.methodLink RX5 102 yX5_mayStrike, Cond.instanceMethod yX5_mayStrike, Cond.selects RX5 yX5_mayStrike yX5_mayStrike, Cond.code yX5_mayStrike cX5_mayStrike 3 (some .boolean), Cond.methodLink RX5 55 yX5_isPropped, Cond.instanceMethod yX5_isPropped, Cond.selects RX5 yX5_isPropped yX5_isPropped, Cond.code yX5_isPropped cX5_isPropped 2 (some .boolean), Cond.methodLink RX5 44 yX5_of, Cond.instanceMethod yX5_of, Cond.selects RX5 yX5_of yX5_of, Cond.code yX5_of cX5_of 3 (some .int), Cond.methodLink RX5 85 yX5_lays]
def wsX5_strike_r2 : List Cond := [Cond.instanceMethod yX5_lays, Cond.selects RX5 yX5_lays yX5_lays, Cond.code yX5_lays cX5_lays 2 none, Cond.fieldLink RX5 13 "StrikePlanModel" "aside" "[I", Cond.methodLink RX5 88 yX5_strikes, Cond.instanceMethod yX5_strikes, Cond.selects RX5 yX5_strikes yX5_strikes, Cond.code yX5_strikes cX5_strikes 3 none, Cond.methodLink RX5 79 yX5_force, Cond.instanceMethod yX5_force, Cond.selects RX5 yX5_force yX5_force, Cond.code yX5_force cX5_force 4 (some .int), Cond.methodLink RX5 62 yX5_highest, Cond.instanceMethod yX5_highest, Cond.selects RX5 yX5_highest yX5_highest, Cond.code yX5_highest cX5_highest 3 (some .int), Cond.methodLink RX5 71 yX5_put, Cond.instanceMethod yX5_put, Cond.selects RX5 yX5_put yX5_put, Cond.code yX5_put cX5_put 4 none, Cond.methodLink RX5 75 yX5_shares, Cond.instanceMethod yX5_shares, Cond.selects RX5 yX5_shares yX5_shares, Cond.code yX5_shares cX5_shares 9 none]
def wsX5_strike_r3 : List Cond := [Cond.fieldLink RX5 33 "StrikePlanModel" "parts" "[I", Cond.methodLink RX5 65 yX5_isGrounded, Cond.instanceMethod yX5_isGrounded, Cond.selects RX5 yX5_isGrounded yX5_isGrounded, Cond.code yX5_isGrounded cX5_isGrounded 2 (some .boolean), Cond.methodLink RX5 59 yX5_lowest, Cond.instanceMethod yX5_lowest, Cond.selects RX5 yX5_lowest yX5_lowest, Cond.code yX5_lowest cX5_lowest 3 (some .int), Cond.methodLink RX5 48 yX5_age, Cond.instanceMethod yX5_age, Cond.selects RX5 yX5_age yX5_age, Cond.code yX5_age cX5_age 2 (some .int), Cond.methodLink RX5 68 yX5_strength, Cond.instanceMethod yX5_strength, Cond.selects RX5 yX5_strength yX5_strength, Cond.code yX5_strength cX5_strength 3 (some .int), Cond.methodLink RX5 52 yX5_hundredthsBy, Cond.static yX5_hundredthsBy, Cond.code yX5_hundredthsBy cX5_hundredthsBy 4 (some .int), Cond.methodLink RX5 92 yX5_weak, Cond.instanceMethod yX5_weak, Cond.selects RX5 yX5_weak yX5_weak, Cond.code yX5_weak cX5_weak 3 (some .int)]
def wsX5_strike_r4 : List Cond := [Cond.methodLink RX5 96 yX5_takesBack, Cond.instanceMethod yX5_takesBack, Cond.selects RX5 yX5_takesBack yX5_takesBack, Cond.code yX5_takesBack cX5_takesBack 2 none, Cond.methodLink RX5 129 yX5_notes, Cond.instanceMethod yX5_notes, Cond.selects RX5 yX5_notes yX5_notes, Cond.code yX5_notes cX5_notes 2 none, Cond.fieldLink RX5 40 "StrikePlanModel" "deeds" "I", Cond.fieldLink RX5 16 "StrikePlanModel" "past" "[I"]
def wsX5_strike : List Cond := .code yX5_strike cX5_strike 2 (some .int) :: ((wsX5_strike_r1 ++ (wsX5_strike_r2 ++ (wsX5_strike_r3 ++ wsX5_strike_r4))) ++ wsX50)
def wsX5_back_r1 : List Cond := [Cond.constant RX5 118 (-1000000001), Cond.constant RX5 137 (-1000000003), Cond.methodLink RX5 82 yX5_isFloor, Cond.instanceMethod yX5_isFloor, Cond.selects RX5 yX5_isFloor yX5_isFloor, Cond.initialized RX5, Cond.code yX5_isFloor cX5_isFloor 2 (some .boolean), Cond.fieldLink RX5 7 "StrikePlanModel" "now" "[I", Cond.methodLink RX5 36 yX5_in, Cond.static yX5_in, Cond.code yX5_in cX5_in 3 (some .boolean), Cond.methodLink RX5 55 yX5_isPropped, Cond.instanceMethod yX5_isPropped, Cond.selects RX5 yX5_isPropped yX5_isPropped, Cond.code yX5_isPropped cX5_isPropped 2 (some .boolean), Cond.methodLink RX5 44 yX5_of, Cond.instanceMethod yX5_of, Cond.selects RX5 yX5_of yX5_of, Cond.code yX5_of cX5_of 3 (some .int), Cond.methodLink RX5 129 yX5_notes, Cond.instanceMethod yX5_notes, Cond.selects RX5 yX5_notes yX5_notes, Cond.code yX5_notes cX5_notes 2 none, Cond.fieldLink RX5 40 "StrikePlanModel" "deeds" "I"]
def wsX5_back_r2 : List Cond := [Cond.fieldLink RX5 16 "StrikePlanModel" "past" "[I", Cond.methodLink RX5 71 yX5_put, Cond.instanceMethod yX5_put, Cond.selects RX5 yX5_put yX5_put, Cond.code yX5_put cX5_put 4 none, Cond.methodLink RX5 59 yX5_lowest, Cond.instanceMethod yX5_lowest, Cond.selects RX5 yX5_lowest yX5_lowest, Cond.code yX5_lowest cX5_lowest 3 (some .int)]
def wsX5_back : List Cond := .code yX5_back cX5_back 2 (some .int) :: ((wsX5_back_r1 ++ wsX5_back_r2) ++ wsX50)
def wsX5_slow_r1 : List Cond := [Cond.constant RX5 118 (-1000000001), Cond.constant RX5 117 (-1000000002), Cond.methodLink RX5 82 yX5_isFloor, Cond.instanceMethod yX5_isFloor, Cond.selects RX5 yX5_isFloor yX5_isFloor, Cond.initialized RX5, Cond.code yX5_isFloor cX5_isFloor 2 (some .boolean), Cond.fieldLink RX5 7 "StrikePlanModel" "now" "[I", Cond.methodLink RX5 36 yX5_in, Cond.static yX5_in, Cond.code yX5_in cX5_in 3 (some .boolean), Cond.methodLink RX5 129 yX5_notes, Cond.instanceMethod yX5_notes, Cond.selects RX5 yX5_notes yX5_notes, Cond.code yX5_notes cX5_notes 2 none, Cond.fieldLink RX5 40 "StrikePlanModel" "deeds" "I", Cond.fieldLink RX5 16 "StrikePlanModel" "past" "[I", Cond.methodLink RX5 44 yX5_of, Cond.instanceMethod yX5_of, Cond.selects RX5 yX5_of yX5_of, Cond.code yX5_of cX5_of 3 (some .int), Cond.methodLink RX5 71 yX5_put, Cond.instanceMethod yX5_put, Cond.selects RX5 yX5_put yX5_put]
def wsX5_slow_r2 : List Cond := [Cond.code yX5_put cX5_put 4 none]
def wsX5_slow : List Cond := .code yX5_slow cX5_slow 4 (some .int) :: ((wsX5_slow_r1 ++ wsX5_slow_r2) ++ wsX50)
def wsX5_bound : List Cond := .code yX5_bound cX5_bound 5 (some .int) :: ([.constant RX5 117 (-1000000002), .fieldLink RX5 7 "StrikePlanModel" "now" "[I", .constant RX5 137 (-1000000003), .methodLink RX5 36 yX5_in, .static yX5_in, .initialized RX5, .code yX5_in cX5_in 3 (some .boolean), .methodLink RX5 129 yX5_notes, .instanceMethod yX5_notes, .selects RX5 yX5_notes yX5_notes, .code yX5_notes cX5_notes 2 none, .fieldLink RX5 40 "StrikePlanModel" "deeds" "I", .fieldLink RX5 16 "StrikePlanModel" "past" "[I"] ++ wsX50)
def wsX5_clear : List Cond := .code yX5_clear cX5_clear 2 (some .int) :: ([.fieldLink RX5 7 "StrikePlanModel" "now" "[I", .methodLink RX5 129 yX5_notes, .instanceMethod yX5_notes, .selects RX5 yX5_notes yX5_notes, .initialized RX5, .code yX5_notes cX5_notes 2 none, .fieldLink RX5 40 "StrikePlanModel" "deeds" "I", .fieldLink RX5 16 "StrikePlanModel" "past" "[I"] ++ wsX50)
def wsX5_drawOf : List Cond := .code yX5_drawOf cX5_drawOf 2 (some .int) :: ([.fieldLink RX5 138 "StrikePlanModel" "seed" "J", .constantLong RX5 142 (1103515245), .constantLong RX5 144 (12345), .constantLong RX5 146 (2147483648), .constantLong RX5 148 (65536)] ++ wsX50)
def wsX5_drift_r1 : List Cond := [Cond.constant RX5 117 (-1000000002), Cond.fieldLink RX5 7 "StrikePlanModel" "now" "[I", Cond.methodLink RX5 36 yX5_in, Cond.static yX5_in, Cond.initialized RX5, Cond.code yX5_in cX5_in 3 (some .boolean), Cond.methodLink RX5 129 yX5_notes, Cond.instanceMethod yX5_notes, Cond.selects RX5 yX5_notes yX5_notes, Cond.code yX5_notes cX5_notes 2 none, Cond.fieldLink RX5 40 "StrikePlanModel" "deeds" "I", Cond.fieldLink RX5 16 "StrikePlanModel" "past" "[I", Cond.methodLink RX5 150 yX5_drawOf, Cond.instanceMethod yX5_drawOf, Cond.selects RX5 yX5_drawOf yX5_drawOf, Cond.code yX5_drawOf cX5_drawOf 2 (some .int), Cond.fieldLink RX5 138 "StrikePlanModel" "seed" "J", Cond.constantLong RX5 142 (1103515245), Cond.constantLong RX5 144 (12345), Cond.constantLong RX5 146 (2147483648), Cond.constantLong RX5 148 (65536), Cond.methodLink RX5 133 yX5_mayPour, Cond.instanceMethod yX5_mayPour, Cond.selects RX5 yX5_mayPour yX5_mayPour]
def wsX5_drift_r2 : List Cond := [Cond.code yX5_mayPour cX5_mayPour 2 (some .boolean), Cond.methodLink RX5 85 yX5_lays, Cond.instanceMethod yX5_lays, Cond.selects RX5 yX5_lays yX5_lays, Cond.code yX5_lays cX5_lays 2 none, Cond.fieldLink RX5 13 "StrikePlanModel" "aside" "[I", Cond.methodLink RX5 99 yX5_pours, Cond.instanceMethod yX5_pours, Cond.selects RX5 yX5_pours yX5_pours, Cond.code yX5_pours cX5_pours 2 none, Cond.methodLink RX5 71 yX5_put, Cond.instanceMethod yX5_put, Cond.selects RX5 yX5_put yX5_put, Cond.code yX5_put cX5_put 4 none, Cond.methodLink RX5 75 yX5_shares, Cond.instanceMethod yX5_shares, Cond.selects RX5 yX5_shares yX5_shares, Cond.code yX5_shares cX5_shares 9 none, Cond.fieldLink RX5 33 "StrikePlanModel" "parts" "[I", Cond.methodLink RX5 65 yX5_isGrounded, Cond.instanceMethod yX5_isGrounded, Cond.selects RX5 yX5_isGrounded yX5_isGrounded, Cond.code yX5_isGrounded cX5_isGrounded 2 (some .boolean), Cond.methodLink RX5 59 yX5_lowest]
def wsX5_drift_r3 : List Cond := [Cond.instanceMethod yX5_lowest, Cond.selects RX5 yX5_lowest yX5_lowest, Cond.code yX5_lowest cX5_lowest 3 (some .int), Cond.methodLink RX5 55 yX5_isPropped, Cond.instanceMethod yX5_isPropped, Cond.selects RX5 yX5_isPropped yX5_isPropped, Cond.code yX5_isPropped cX5_isPropped 2 (some .boolean), Cond.methodLink RX5 44 yX5_of, Cond.instanceMethod yX5_of, Cond.selects RX5 yX5_of yX5_of, Cond.code yX5_of cX5_of 3 (some .int), Cond.methodLink RX5 62 yX5_highest, Cond.instanceMethod yX5_highest, Cond.selects RX5 yX5_highest yX5_highest, Cond.code yX5_highest cX5_highest 3 (some .int), Cond.methodLink RX5 48 yX5_age, Cond.instanceMethod yX5_age, Cond.selects RX5 yX5_age yX5_age, Cond.code yX5_age cX5_age 2 (some .int), Cond.methodLink RX5 68 yX5_strength, Cond.instanceMethod yX5_strength, Cond.selects RX5 yX5_strength yX5_strength, Cond.code yX5_strength cX5_strength 3 (some .int), Cond.methodLink RX5 52 yX5_hundredthsBy]
def wsX5_drift_r4 : List Cond := [Cond.static yX5_hundredthsBy, Cond.code yX5_hundredthsBy cX5_hundredthsBy 4 (some .int), Cond.methodLink RX5 92 yX5_weak, Cond.instanceMethod yX5_weak, Cond.selects RX5 yX5_weak yX5_weak, Cond.code yX5_weak cX5_weak 3 (some .int), Cond.methodLink RX5 96 yX5_takesBack, Cond.instanceMethod yX5_takesBack, Cond.selects RX5 yX5_takesBack yX5_takesBack, Cond.code yX5_takesBack cX5_takesBack 2 none, Cond.methodLink RX5 102 yX5_mayStrike, Cond.instanceMethod yX5_mayStrike, Cond.selects RX5 yX5_mayStrike yX5_mayStrike, Cond.code yX5_mayStrike cX5_mayStrike 3 (some .boolean), Cond.methodLink RX5 82 yX5_isFloor, Cond.instanceMethod yX5_isFloor, Cond.selects RX5 yX5_isFloor yX5_isFloor, Cond.code yX5_isFloor cX5_isFloor 2 (some .boolean), Cond.methodLink RX5 88 yX5_strikes, Cond.instanceMethod yX5_strikes, Cond.selects RX5 yX5_strikes yX5_strikes, Cond.code yX5_strikes cX5_strikes 3 none, Cond.methodLink RX5 79 yX5_force, Cond.instanceMethod yX5_force]
def wsX5_drift_r5 : List Cond := [Cond.selects RX5 yX5_force yX5_force, Cond.code yX5_force cX5_force 4 (some .int)]
def wsX5_drift : List Cond := .code yX5_drift cX5_drift 6 (some .int) :: ((wsX5_drift_r1 ++ (wsX5_drift_r2 ++ (wsX5_drift_r3 ++ (wsX5_drift_r4 ++ wsX5_drift_r5)))) ++ wsX50)
def wsX5_undo : List Cond := .code yX5_undo cX5_undo 3 (some .int) :: ([.constant RX5 117 (-1000000002), .fieldLink RX5 40 "StrikePlanModel" "deeds" "I", .constant RX5 137 (-1000000003), .fieldLink RX5 7 "StrikePlanModel" "now" "[I", .fieldLink RX5 16 "StrikePlanModel" "past" "[I", .methodLink RX5 36 yX5_in, .static yX5_in, .initialized RX5, .code yX5_in cX5_in 3 (some .boolean)] ++ wsX50)
def wsX5_write : List Cond := .code yX5_write cX5_write 3 (some .int) :: ([.constant RX5 118 (-1000000001), .fieldLink RX5 105 "StrikePlanModel" "entries" "I", .constant RX5 132 (-1000000004), .fieldLink RX5 30 "StrikePlanModel" "book" "[I", .methodLink RX5 82 yX5_isFloor, .instanceMethod yX5_isFloor, .selects RX5 yX5_isFloor yX5_isFloor, .initialized RX5, .code yX5_isFloor cX5_isFloor 2 (some .boolean), .fieldLink RX5 7 "StrikePlanModel" "now" "[I", .methodLink RX5 36 yX5_in, .static yX5_in, .code yX5_in cX5_in 3 (some .boolean)] ++ wsX50)
def wsX5_tear : List Cond := .code yX5_tear cX5_tear 2 (some .int) :: ([.fieldLink RX5 105 "StrikePlanModel" "entries" "I"] ++ wsX50)
def wsX5_seed : List Cond := .code yX5_seed cX5_seed 3 (some .int) :: ([.constant RX5 117 (-1000000002), .fieldLink RX5 138 "StrikePlanModel" "seed" "J"] ++ wsX50)
def wsX5_keep : List Cond := .code yX5_keep cX5_keep 3 (some .int) :: ([.constant RX5 118 (-1000000001), .fieldLink RX5 19 "StrikePlanModel" "images" "[I", .fieldLink RX5 7 "StrikePlanModel" "now" "[I", .fieldLink RX5 22 "StrikePlanModel" "seeds" "[J", .fieldLink RX5 138 "StrikePlanModel" "seed" "J", .fieldLink RX5 26 "StrikePlanModel" "kept" "[Z", .fieldLink RX5 40 "StrikePlanModel" "deeds" "I", .methodLink RX5 36 yX5_in, .static yX5_in, .initialized RX5, .code yX5_in cX5_in 3 (some .boolean)] ++ wsX50)
def wsX5_goBack : List Cond := .code yX5_goBack cX5_goBack 3 (some .int) :: ([.constant RX5 118 (-1000000001), .fieldLink RX5 26 "StrikePlanModel" "kept" "[Z", .constant RX5 137 (-1000000003), .fieldLink RX5 7 "StrikePlanModel" "now" "[I", .fieldLink RX5 19 "StrikePlanModel" "images" "[I", .fieldLink RX5 22 "StrikePlanModel" "seeds" "[J", .fieldLink RX5 138 "StrikePlanModel" "seed" "J", .fieldLink RX5 40 "StrikePlanModel" "deeds" "I", .methodLink RX5 36 yX5_in, .static yX5_in, .initialized RX5, .code yX5_in cX5_in 3 (some .boolean)] ++ wsX50)
def wsJ9_max_7cf53 : List Cond := .code yJ9_max_7cf53 cJ9_max_7cf53 2 (some .int) :: ([])
def wsJ9_min_7cf53 : List Cond := .code yJ9_min_7cf53 cJ9_min_7cf53 2 (some .int) :: ([])
def wsL_law_r1 : List Cond := [Cond.classLink RL 7 RX4, Cond.instantiable RX4 6, Cond.initialized RX4, Cond.classLink RL 10 RX5, Cond.instantiable RX5 11, Cond.initialized RX5, Cond.methodLink RL 9 yX4_init, Cond.instanceMethod yX4_init, Cond.code yX4_init cX4_init 2 none, Cond.methodLink RX4 1 objectInit, Cond.instanceMethod objectInit, Cond.code objectInit ⟨#[0xb1]⟩ 1 none, Cond.classLink RX4 7 RX3, Cond.instantiable RX3 8, Cond.initialized RX3, Cond.fieldLink RX4 10 "StrikePlan" "now" "LStrikePlan$Tower;", Cond.fieldLink RX4 16 "StrikePlan" "trial" "LStrikePlan$Tower;", Cond.classLink RX4 19 RX2, Cond.instantiable RX2 3, Cond.initialized RX2, Cond.fieldLink RX4 22 "StrikePlan" "past" "LStrikePlan$Past;", Cond.classLink RX4 26 RX0, Cond.instantiable RX0 3, Cond.initialized RX0]
def wsL_law_r2 : List Cond := [Cond.fieldLink RX4 29 "StrikePlan" "book" "LStrikePlan$Book;", Cond.classLink RX4 33 RX1, Cond.fieldLink RX4 35 "StrikePlan" "images" "[LStrikePlan$Image;", Cond.fieldLink RX4 39 "StrikePlan" "drawSeed" "I", Cond.instantiable RX1 3, Cond.initialized RX1, Cond.instanceMethod yX3_init, Cond.code yX3_init cX3_init 1 none, Cond.methodLink RX3 3 objectInit, Cond.arrayClass .int, Cond.fieldLink RX3 9 "StrikePlan$Tower" "bounds" "[I", Cond.fieldLink RX3 15 "StrikePlan$Tower" "pouredOn" "[I", Cond.fieldLink RX3 18 "StrikePlan$Tower" "slowness" "[I", Cond.fieldLink RX3 21 "StrikePlan$Tower" "load" "[I", Cond.fieldLink RX3 24 "StrikePlan$Tower" "part" "[I", Cond.fieldLink RX3 27 "StrikePlan$Tower" "day" "I", Cond.fieldLink RX3 31 "StrikePlan$Tower" "count" "I", Cond.fieldLink RX3 34 "StrikePlan$Tower" "props" "I", Cond.methodLink RX4 21 yX2_init, Cond.instanceMethod yX2_init, Cond.code yX2_init cX2_init 2 none, Cond.methodLink RX2 3 objectInit, Cond.classLink RX2 9 RX3, Cond.fieldLink RX2 11 "StrikePlan$Past" "ring" "[LStrikePlan$Tower;"]
def wsL_law_r3 : List Cond := [Cond.fieldLink RX2 17 "StrikePlan$Past" "next" "I", Cond.fieldLink RX2 21 "StrikePlan$Past" "size" "I", Cond.instanceMethod yX0_init, Cond.code yX0_init cX0_init 1 none, Cond.methodLink RX0 3 objectInit, Cond.fieldLink RX0 9 "StrikePlan$Book" "floors" "[I", Cond.fieldLink RX0 15 "StrikePlan$Book" "loads" "[I", Cond.fieldLink RX0 18 "StrikePlan$Book" "size" "I", Cond.instanceMethod yX1_init, Cond.code yX1_init cX1_init 1 none, Cond.methodLink RX1 1 objectInit, Cond.classLink RX1 7 RX3, Cond.fieldLink RX1 10 "StrikePlan$Image" "tower" "LStrikePlan$Tower;", Cond.fieldLink RX1 16 "StrikePlan$Image" "drawSeed" "I", Cond.fieldLink RX1 20 "StrikePlan$Image" "taken" "Z", Cond.methodLink RL 12 yX5_init, Cond.instanceMethod yX5_init, Cond.code yX5_init cX5_init 1 none, Cond.methodLink RX5 1 objectInit, Cond.fieldLink RX5 7 "StrikePlanModel" "now" "[I", Cond.fieldLink RX5 13 "StrikePlanModel" "aside" "[I", Cond.fieldLink RX5 16 "StrikePlanModel" "past" "[I", Cond.fieldLink RX5 19 "StrikePlanModel" "images" "[I", Cond.arrayClass .long]
def wsL_law_r4 : List Cond := [Cond.fieldLink RX5 22 "StrikePlanModel" "seeds" "[J", Cond.arrayClass .boolean, Cond.fieldLink RX5 26 "StrikePlanModel" "kept" "[Z", Cond.fieldLink RX5 30 "StrikePlanModel" "book" "[I", Cond.fieldLink RX5 33 "StrikePlanModel" "parts" "[I", Cond.methodLink RL 13 yX4_told, Cond.instanceMethod yX4_told, Cond.selects RX4 yX4_told yX4_told, Cond.code yX4_told cX4_told 2 (some .int), Cond.fieldLink RX4 44 "StrikePlan$Tower" "day" "I", Cond.fieldLink RX4 47 "StrikePlan$Tower" "count" "I", Cond.fieldLink RX4 50 "StrikePlan$Tower" "bounds" "[I", Cond.fieldLink RX4 54 "StrikePlan$Tower" "props" "I", Cond.fieldLink RX4 76 "StrikePlan$Book" "size" "I", Cond.fieldLink RX4 83 "StrikePlan$Past" "size" "I", Cond.constant RX4 84 (-1000000002), Cond.methodLink RX4 57 yX3_weakSet, Cond.instanceMethod yX3_weakSet, Cond.selects RX3 yX3_weakSet yX3_weakSet, Cond.code yX3_weakSet cX3_weakSet 3 (some .int), Cond.methodLink RX3 55 yX3_strengthOf, Cond.instanceMethod yX3_strengthOf, Cond.selects RX3 yX3_strengthOf yX3_strengthOf, Cond.code yX3_strengthOf cX3_strengthOf 3 (some .int)]
def wsL_law_r5 : List Cond := [Cond.methodLink RX3 37 yX3_ageOf, Cond.instanceMethod yX3_ageOf, Cond.selects RX3 yX3_ageOf yX3_ageOf, Cond.code yX3_ageOf cX3_ageOf 2 (some .int), Cond.static yX4_percentAt, Cond.code yX4_percentAt cX4_percentAt 5 (some .int), Cond.constantLong RX4 198 (100), Cond.constantLong RX4 200 (4), Cond.methodLink RX4 61 yX3_isSafe, Cond.instanceMethod yX3_isSafe, Cond.selects RX3 yX3_isSafe yX3_isSafe, Cond.code yX3_isSafe cX3_isSafe 1 (some .boolean), Cond.methodLink RX3 58 yX3_weakSet, Cond.methodLink RX4 65 yX4_maySet, Cond.instanceMethod yX4_maySet, Cond.selects RX4 yX4_maySet yX4_maySet, Cond.code yX4_maySet cX4_maySet 3 (some .int), Cond.methodLink RX4 120 yX4_tryStrike, Cond.instanceMethod yX4_tryStrike, Cond.selects RX4 yX4_tryStrike yX4_tryStrike, Cond.code yX4_tryStrike cX4_tryStrike 3 (some .boolean), Cond.methodLink RX4 68 yX3_has, Cond.instanceMethod yX3_has, Cond.selects RX3 yX3_has yX3_has]
def wsL_law_r6 : List Cond := [Cond.code yX3_has cX3_has 2 (some .boolean), Cond.methodLink RX4 98 yX3_isPropped, Cond.instanceMethod yX3_isPropped, Cond.selects RX3 yX3_isPropped yX3_isPropped, Cond.code yX3_isPropped cX3_isPropped 2 (some .boolean), Cond.methodLink RX4 136 yX3_copyFrom, Cond.instanceMethod yX3_copyFrom, Cond.selects RX3 yX3_copyFrom yX3_copyFrom, Cond.code yX3_copyFrom cX3_copyFrom 3 none, Cond.methodLink RX4 181 yX3_takeProps, Cond.instanceMethod yX3_takeProps, Cond.selects RX3 yX3_takeProps yX3_takeProps, Cond.code yX3_takeProps cX3_takeProps 3 none, Cond.methodLink RX3 75 yX3_has, Cond.methodLink RX3 78 yX3_forceUnder, Cond.instanceMethod yX3_forceUnder, Cond.selects RX3 yX3_forceUnder yX3_forceUnder, Cond.code yX3_forceUnder cX3_forceUnder 5 (some .int), Cond.methodLink RX3 45 yX3_isPropped, Cond.methodLink RX3 52 yX3_highestOf, Cond.instanceMethod yX3_highestOf, Cond.selects RX3 yX3_highestOf yX3_highestOf, Cond.code yX3_highestOf cX3_highestOf 3 (some .int), Cond.methodLink RX3 71 yX3_shareAmong]
def wsL_law_r7 : List Cond := [Cond.instanceMethod yX3_shareAmong, Cond.selects RX3 yX3_shareAmong yX3_shareAmong, Cond.code yX3_shareAmong cX3_shareAmong 11 none, Cond.methodLink RX3 81 Lib.Math.min.name, Cond.static Lib.Math.min.name, Cond.initialized "java/lang/Math", Cond.code Lib.Math.min.name Lib.Math.min.code 2 (some .int), Cond.methodLink RX3 62 Lib.Math.max.name, Cond.static Lib.Math.max.name, Cond.code Lib.Math.max.name Lib.Math.max.code 2 (some .int), Cond.methodLink RX3 49 yX3_lowestOf, Cond.instanceMethod yX3_lowestOf, Cond.selects RX3 yX3_lowestOf yX3_lowestOf, Cond.code yX3_lowestOf cX3_lowestOf 3 (some .int), Cond.methodLink RX3 84 yJ7_fill_53178, Cond.static yJ7_fill_53178, Cond.initialized RJ7, Cond.code yJ7_fill_53178 cJ7_fill_53178 4 none, Cond.methodLink RX3 90 yX3_spreadByOnes, Cond.instanceMethod yX3_spreadByOnes, Cond.selects RX3 yX3_spreadByOnes yX3_spreadByOnes, Cond.code yX3_spreadByOnes cX3_spreadByOnes 7 none, Cond.methodLink RX4 72 yX3_forceUnder, Cond.methodLink RX4 79 yX0_firstWrong]
def wsL_law_r8 : List Cond := [Cond.instanceMethod yX0_firstWrong, Cond.selects RX0 yX0_firstWrong yX0_firstWrong, Cond.code yX0_firstWrong cX0_firstWrong 3 (some .int), Cond.fieldLink RX0 28 "StrikePlan$Tower" "load" "[I", Cond.methodLink RX0 22 yX3_has, Cond.methodLink RL 17 yX5_told, Cond.instanceMethod yX5_told, Cond.selects RX5 yX5_told yX5_told, Cond.code yX5_told cX5_told 2 (some .int), Cond.fieldLink RX5 105 "StrikePlanModel" "entries" "I", Cond.fieldLink RX5 40 "StrikePlanModel" "deeds" "I", Cond.constant RX5 117 (-1000000002), Cond.methodLink RX5 108 yX5_propped, Cond.instanceMethod yX5_propped, Cond.selects RX5 yX5_propped yX5_propped, Cond.code yX5_propped cX5_propped 3 (some .int), Cond.methodLink RX5 55 yX5_isPropped, Cond.instanceMethod yX5_isPropped, Cond.selects RX5 yX5_isPropped yX5_isPropped, Cond.code yX5_isPropped cX5_isPropped 2 (some .boolean), Cond.methodLink RX5 44 yX5_of, Cond.instanceMethod yX5_of, Cond.selects RX5 yX5_of yX5_of, Cond.code yX5_of cX5_of 3 (some .int)]
def wsL_law_r9 : List Cond := [Cond.methodLink RX5 92 yX5_weak, Cond.instanceMethod yX5_weak, Cond.selects RX5 yX5_weak yX5_weak, Cond.code yX5_weak cX5_weak 3 (some .int), Cond.methodLink RX5 68 yX5_strength, Cond.instanceMethod yX5_strength, Cond.selects RX5 yX5_strength yX5_strength, Cond.code yX5_strength cX5_strength 3 (some .int), Cond.methodLink RX5 48 yX5_age, Cond.instanceMethod yX5_age, Cond.selects RX5 yX5_age yX5_age, Cond.code yX5_age cX5_age 2 (some .int), Cond.methodLink RX5 52 yX5_hundredthsBy, Cond.static yX5_hundredthsBy, Cond.code yX5_hundredthsBy cX5_hundredthsBy 4 (some .int), Cond.methodLink RX5 111 yX5_may, Cond.instanceMethod yX5_may, Cond.selects RX5 yX5_may yX5_may, Cond.code yX5_may cX5_may 3 (some .int), Cond.methodLink RX5 102 yX5_mayStrike, Cond.instanceMethod yX5_mayStrike, Cond.selects RX5 yX5_mayStrike yX5_mayStrike, Cond.code yX5_mayStrike cX5_mayStrike 3 (some .boolean), Cond.methodLink RX5 82 yX5_isFloor]
def wsL_law_r10 : List Cond := [Cond.instanceMethod yX5_isFloor, Cond.selects RX5 yX5_isFloor yX5_isFloor, Cond.code yX5_isFloor cX5_isFloor 2 (some .boolean), Cond.methodLink RX5 36 yX5_in, Cond.static yX5_in, Cond.code yX5_in cX5_in 3 (some .boolean), Cond.methodLink RX5 85 yX5_lays, Cond.instanceMethod yX5_lays, Cond.selects RX5 yX5_lays yX5_lays, Cond.code yX5_lays cX5_lays 2 none, Cond.methodLink RX5 88 yX5_strikes, Cond.instanceMethod yX5_strikes, Cond.selects RX5 yX5_strikes yX5_strikes, Cond.code yX5_strikes cX5_strikes 3 none, Cond.methodLink RX5 79 yX5_force, Cond.instanceMethod yX5_force, Cond.selects RX5 yX5_force yX5_force, Cond.code yX5_force cX5_force 4 (some .int), Cond.methodLink RX5 62 yX5_highest, Cond.instanceMethod yX5_highest, Cond.selects RX5 yX5_highest yX5_highest, Cond.code yX5_highest cX5_highest 3 (some .int), Cond.methodLink RX5 71 yX5_put, Cond.instanceMethod yX5_put]
def wsL_law_r11 : List Cond := [Cond.selects RX5 yX5_put yX5_put, Cond.code yX5_put cX5_put 4 none, Cond.methodLink RX5 75 yX5_shares, Cond.instanceMethod yX5_shares, Cond.selects RX5 yX5_shares yX5_shares, Cond.code yX5_shares cX5_shares 9 none, Cond.methodLink RX5 65 yX5_isGrounded, Cond.instanceMethod yX5_isGrounded, Cond.selects RX5 yX5_isGrounded yX5_isGrounded, Cond.code yX5_isGrounded cX5_isGrounded 2 (some .boolean), Cond.methodLink RX5 59 yX5_lowest, Cond.instanceMethod yX5_lowest, Cond.selects RX5 yX5_lowest yX5_lowest, Cond.code yX5_lowest cX5_lowest 3 (some .int), Cond.methodLink RX5 96 yX5_takesBack, Cond.instanceMethod yX5_takesBack, Cond.selects RX5 yX5_takesBack yX5_takesBack, Cond.code yX5_takesBack cX5_takesBack 2 none, Cond.methodLink RX5 114 yX5_wrong, Cond.instanceMethod yX5_wrong, Cond.selects RX5 yX5_wrong yX5_wrong, Cond.code yX5_wrong cX5_wrong 2 (some .int), Cond.methodLink RL 18 yX4_floor, Cond.instanceMethod yX4_floor]
def wsL_law_r12 : List Cond := [Cond.selects RX4 yX4_floor yX4_floor, Cond.code yX4_floor cX4_floor 3 (some .int), Cond.constant RX4 85 (-1000000001), Cond.fieldLink RX4 89 "StrikePlan$Tower" "slowness" "[I", Cond.fieldLink RX4 95 "StrikePlan$Tower" "load" "[I", Cond.methodLink RX4 86 yX3_ageOf, Cond.methodLink RX4 92 yX3_strengthOf, Cond.methodLink RX4 101 yX3_lowestOf, Cond.methodLink RX4 104 yX3_highestOf, Cond.methodLink RX4 107 yX3_isGrounded, Cond.instanceMethod yX3_isGrounded, Cond.selects RX3 yX3_isGrounded yX3_isGrounded, Cond.code yX3_isGrounded cX3_isGrounded 2 (some .boolean), Cond.methodLink RX4 110 yX4_earliestFor, Cond.instanceMethod yX4_earliestFor, Cond.selects RX4 yX4_earliestFor yX4_earliestFor, Cond.code yX4_earliestFor cX4_earliestFor 3 (some .int), Cond.methodLink RX4 113 yX4_harmOf, Cond.instanceMethod yX4_harmOf, Cond.selects RX4 yX4_harmOf yX4_harmOf, Cond.code yX4_harmOf cX4_harmOf 2 (some .int), Cond.methodLink RX4 184 yX3_greatestExcess, Cond.instanceMethod yX3_greatestExcess, Cond.selects RX3 yX3_greatestExcess yX3_greatestExcess]
def wsL_law_r13 : List Cond := [Cond.code yX3_greatestExcess cX3_greatestExcess 3 (some .int), Cond.methodLink RL 22 yX5_floor, Cond.instanceMethod yX5_floor, Cond.selects RX5 yX5_floor yX5_floor, Cond.code yX5_floor cX5_floor 3 (some .int), Cond.constant RX5 118 (-1000000001), Cond.methodLink RX5 119 yX5_earliest, Cond.instanceMethod yX5_earliest, Cond.selects RX5 yX5_earliest yX5_earliest, Cond.code yX5_earliest cX5_earliest 5 (some .int), Cond.methodLink RX5 122 yX5_harm, Cond.instanceMethod yX5_harm, Cond.selects RX5 yX5_harm yX5_harm, Cond.code yX5_harm cX5_harm 5 (some .int), Cond.methodLink RL 23 yX4_hundredths, Cond.instanceMethod yX4_hundredths, Cond.selects RX4 yX4_hundredths yX4_hundredths, Cond.code yX4_hundredths cX4_hundredths 3 (some .int), Cond.methodLink RX4 116 yX4_percentAt, Cond.methodLink RL 26 yX5_hundredths, Cond.instanceMethod yX5_hundredths, Cond.selects RX5 yX5_hundredths yX5_hundredths, Cond.code yX5_hundredths cX5_hundredths 3 (some .int), Cond.methodLink RL 27 yX4_would]
def wsL_law_r14 : List Cond := [Cond.instanceMethod yX4_would, Cond.selects RX4 yX4_would yX4_would, Cond.code yX4_would cX4_would 3 (some .int), Cond.methodLink RL 30 yX5_would, Cond.instanceMethod yX5_would, Cond.selects RX5 yX5_would yX5_would, Cond.code yX5_would cX5_would 4 (some .int), Cond.methodLink RL 31 yX4_cycle, Cond.instanceMethod yX4_cycle, Cond.selects RX4 yX4_cycle yX4_cycle, Cond.code yX4_cycle cX4_cycle 3 (some .int), Cond.methodLink RX4 124 yX4_cycleHolds, Cond.instanceMethod yX4_cycleHolds, Cond.selects RX4 yX4_cycleHolds yX4_cycleHolds, Cond.code yX4_cycleHolds cX4_cycleHolds 4 (some .boolean), Cond.methodLink RX4 149 yX3_empty, Cond.instanceMethod yX3_empty, Cond.selects RX3 yX3_empty yX3_empty, Cond.code yX3_empty cX3_empty 1 none, Cond.methodLink RX4 187 yJ6_bitCount_0f7a4, Cond.static yJ6_bitCount_0f7a4, Cond.initialized RJ6, Cond.code yJ6_bitCount_0f7a4 cJ6_bitCount_0f7a4 1 (some .int), Cond.constant RJ6 265 (1431655765)]
def wsL_law_r15 : List Cond := [Cond.constant RJ6 266 (858993459), Cond.constant RJ6 267 (252645135), Cond.methodLink RX4 192 yX3_lowestPropped, Cond.instanceMethod yX3_lowestPropped, Cond.selects RX3 yX3_lowestPropped yX3_lowestPropped, Cond.code yX3_lowestPropped cX3_lowestPropped 2 (some .int), Cond.methodLink RX4 178 yX3_addFloor, Cond.instanceMethod yX3_addFloor, Cond.selects RX3 yX3_addFloor yX3_addFloor, Cond.code yX3_addFloor cX3_addFloor 2 none, Cond.methodLink RX3 67 yX3_putProps, Cond.instanceMethod yX3_putProps, Cond.selects RX3 yX3_putProps yX3_putProps, Cond.code yX3_putProps cX3_putProps 2 none, Cond.methodLink RL 34 yX5_cycle, Cond.instanceMethod yX5_cycle, Cond.selects RX5 yX5_cycle yX5_cycle, Cond.code yX5_cycle cX5_cycle 4 (some .int), Cond.methodLink RX5 125 yX5_holds, Cond.instanceMethod yX5_holds, Cond.selects RX5 yX5_holds yX5_holds, Cond.code yX5_holds cX5_holds 8 (some .boolean), Cond.methodLink RX5 99 yX5_pours, Cond.instanceMethod yX5_pours]
def wsL_law_r16 : List Cond := [Cond.selects RX5 yX5_pours yX5_pours, Cond.code yX5_pours cX5_pours 2 none, Cond.methodLink RL 35 yX4_days, Cond.instanceMethod yX4_days, Cond.selects RX4 yX4_days yX4_days, Cond.code yX4_days cX4_days 2 (some .int), Cond.methodLink RX4 127 yX2_note, Cond.instanceMethod yX2_note, Cond.selects RX2 yX2_note yX2_note, Cond.code yX2_note cX2_note 2 none, Cond.methodLink RX2 29 Lib.Math.min.name, Cond.methodLink RX2 25 yX3_copyFrom, Cond.methodLink RL 38 yX5_days, Cond.instanceMethod yX5_days, Cond.selects RX5 yX5_days yX5_days, Cond.code yX5_days cX5_days 2 (some .int), Cond.methodLink RX5 129 yX5_notes, Cond.instanceMethod yX5_notes, Cond.selects RX5 yX5_notes yX5_notes, Cond.code yX5_notes cX5_notes 2 none, Cond.methodLink RL 39 yX4_pour, Cond.instanceMethod yX4_pour, Cond.selects RX4 yX4_pour yX4_pour, Cond.code yX4_pour cX4_pour 1 (some .int)]
def wsL_law_r17 : List Cond := [Cond.constant RX4 131 (-1000000004), Cond.constant RX4 135 (-1000000003), Cond.methodLink RX4 132 yX4_tryPour, Cond.instanceMethod yX4_tryPour, Cond.selects RX4 yX4_tryPour yX4_tryPour, Cond.code yX4_tryPour cX4_tryPour 1 (some .boolean), Cond.methodLink RL 43 yX5_pour, Cond.instanceMethod yX5_pour, Cond.selects RX5 yX5_pour yX5_pour, Cond.code yX5_pour cX5_pour 1 (some .int), Cond.constant RX5 132 (-1000000004), Cond.constant RX5 137 (-1000000003), Cond.methodLink RX5 133 yX5_mayPour, Cond.instanceMethod yX5_mayPour, Cond.selects RX5 yX5_mayPour yX5_mayPour, Cond.code yX5_mayPour cX5_mayPour 2 (some .boolean), Cond.methodLink RL 44 yX4_strike, Cond.instanceMethod yX4_strike, Cond.selects RX4 yX4_strike yX4_strike, Cond.code yX4_strike cX4_strike 2 (some .int), Cond.methodLink RL 47 yX5_strike, Cond.instanceMethod yX5_strike, Cond.selects RX5 yX5_strike yX5_strike, Cond.code yX5_strike cX5_strike 2 (some .int)]
def wsL_law_r18 : List Cond := [Cond.methodLink RL 48 yX4_back, Cond.instanceMethod yX4_back, Cond.selects RX4 yX4_back yX4_back, Cond.code yX4_back cX4_back 2 (some .int), Cond.methodLink RX4 139 yX3_putProps, Cond.methodLink RL 51 yX5_back, Cond.instanceMethod yX5_back, Cond.selects RX5 yX5_back yX5_back, Cond.code yX5_back cX5_back 2 (some .int), Cond.methodLink RL 52 yX4_slow, Cond.instanceMethod yX4_slow, Cond.selects RX4 yX4_slow yX4_slow, Cond.code yX4_slow cX4_slow 4 (some .int), Cond.methodLink RL 55 yX5_slow, Cond.instanceMethod yX5_slow, Cond.selects RX5 yX5_slow yX5_slow, Cond.code yX5_slow cX5_slow 4 (some .int), Cond.methodLink RL 56 yX4_bound, Cond.instanceMethod yX4_bound, Cond.selects RX4 yX4_bound yX4_bound, Cond.code yX4_bound cX4_bound 4 (some .int), Cond.fieldLink RX4 143 "StrikePlan" "LEAST_BOUND" "[I", Cond.fieldLink RX4 146 "StrikePlan" "GREATEST_BOUND" "[I", Cond.methodLink RL 59 yX5_bound]
def wsL_law_r19 : List Cond := [Cond.instanceMethod yX5_bound, Cond.selects RX5 yX5_bound yX5_bound, Cond.code yX5_bound cX5_bound 5 (some .int), Cond.methodLink RL 60 yX4_clear, Cond.instanceMethod yX4_clear, Cond.selects RX4 yX4_clear yX4_clear, Cond.code yX4_clear cX4_clear 2 (some .int), Cond.methodLink RL 63 yX5_clear, Cond.instanceMethod yX5_clear, Cond.selects RX5 yX5_clear yX5_clear, Cond.code yX5_clear cX5_clear 2 (some .int), Cond.methodLink RL 64 yX4_drift, Cond.instanceMethod yX4_drift, Cond.selects RX4 yX4_drift yX4_drift, Cond.code yX4_drift cX4_drift 6 (some .int), Cond.methodLink RX4 152 yX4_nextDraw, Cond.instanceMethod yX4_nextDraw, Cond.selects RX4 yX4_nextDraw yX4_nextDraw, Cond.code yX4_nextDraw cX4_nextDraw 1 (some .int), Cond.constant RX4 195 (1103515245), Cond.constant RX4 196 (2147483647), Cond.constant RX4 197 (65536), Cond.methodLink RL 67 yX5_drift, Cond.instanceMethod yX5_drift]
def wsL_law_r20 : List Cond := [Cond.selects RX5 yX5_drift yX5_drift, Cond.code yX5_drift cX5_drift 6 (some .int), Cond.methodLink RX5 150 yX5_drawOf, Cond.instanceMethod yX5_drawOf, Cond.selects RX5 yX5_drawOf yX5_drawOf, Cond.code yX5_drawOf cX5_drawOf 2 (some .int), Cond.fieldLink RX5 138 "StrikePlanModel" "seed" "J", Cond.constantLong RX5 142 (1103515245), Cond.constantLong RX5 144 (12345), Cond.constantLong RX5 146 (2147483648), Cond.constantLong RX5 148 (65536), Cond.methodLink RL 68 yX4_undo, Cond.instanceMethod yX4_undo, Cond.selects RX4 yX4_undo yX4_undo, Cond.code yX4_undo cX4_undo 2 (some .int), Cond.methodLink RX4 155 yX2_takeBack, Cond.instanceMethod yX2_takeBack, Cond.selects RX2 yX2_takeBack yX2_takeBack, Cond.code yX2_takeBack cX2_takeBack 3 none, Cond.methodLink RL 71 yX5_undo, Cond.instanceMethod yX5_undo, Cond.selects RX5 yX5_undo yX5_undo, Cond.code yX5_undo cX5_undo 3 (some .int), Cond.methodLink RL 72 yX4_write]
def wsL_law_r21 : List Cond := [Cond.instanceMethod yX4_write, Cond.selects RX4 yX4_write yX4_write, Cond.code yX4_write cX4_write 3 (some .int), Cond.methodLink RX4 159 yX0_add, Cond.instanceMethod yX0_add, Cond.selects RX0 yX0_add yX0_add, Cond.code yX0_add cX0_add 3 none, Cond.methodLink RL 75 yX5_write, Cond.instanceMethod yX5_write, Cond.selects RX5 yX5_write yX5_write, Cond.code yX5_write cX5_write 3 (some .int), Cond.methodLink RL 76 yX4_tear, Cond.instanceMethod yX4_tear, Cond.selects RX4 yX4_tear yX4_tear, Cond.code yX4_tear cX4_tear 2 (some .int), Cond.methodLink RL 79 yX5_tear, Cond.instanceMethod yX5_tear, Cond.selects RX5 yX5_tear yX5_tear, Cond.code yX5_tear cX5_tear 2 (some .int), Cond.methodLink RL 80 yX4_seed, Cond.instanceMethod yX4_seed, Cond.selects RX4 yX4_seed yX4_seed, Cond.code yX4_seed cX4_seed 3 (some .int), Cond.methodLink RL 83 yX5_seed]
def wsL_law_r22 : List Cond := [Cond.instanceMethod yX5_seed, Cond.selects RX5 yX5_seed yX5_seed, Cond.code yX5_seed cX5_seed 3 (some .int), Cond.methodLink RL 84 yX4_keep, Cond.instanceMethod yX4_keep, Cond.selects RX4 yX4_keep yX4_keep, Cond.code yX4_keep cX4_keep 2 (some .int), Cond.methodLink RX4 163 yX1_take, Cond.instanceMethod yX1_take, Cond.selects RX1 yX1_take yX1_take, Cond.code yX1_take cX1_take 3 none, Cond.methodLink RX1 24 yX3_copyFrom, Cond.methodLink RX4 167 yX2_forget, Cond.instanceMethod yX2_forget, Cond.selects RX2 yX2_forget yX2_forget, Cond.code yX2_forget cX2_forget 1 none, Cond.methodLink RL 87 yX5_keep, Cond.instanceMethod yX5_keep, Cond.selects RX5 yX5_keep yX5_keep, Cond.code yX5_keep cX5_keep 3 (some .int), Cond.methodLink RL 88 yX4_goBack, Cond.instanceMethod yX4_goBack, Cond.selects RX4 yX4_goBack yX4_goBack, Cond.code yX4_goBack cX4_goBack 2 (some .int)]
def wsL_law_r23 : List Cond := [Cond.fieldLink RX4 170 "StrikePlan$Image" "taken" "Z", Cond.fieldLink RX4 174 "StrikePlan$Image" "tower" "LStrikePlan$Tower;", Cond.fieldLink RX4 177 "StrikePlan$Image" "drawSeed" "I", Cond.methodLink RL 91 yX5_goBack, Cond.instanceMethod yX5_goBack, Cond.selects RX5 yX5_goBack yX5_goBack, Cond.code yX5_goBack cX5_goBack 3 (some .int)]
def wsL_law : List Cond := (wsL_law_r1 ++ (wsL_law_r2 ++ (wsL_law_r3 ++ (wsL_law_r4 ++ (wsL_law_r5 ++ (wsL_law_r6 ++ (wsL_law_r7 ++ (wsL_law_r8 ++ (wsL_law_r9 ++ (wsL_law_r10 ++ (wsL_law_r11 ++ (wsL_law_r12 ++ (wsL_law_r13 ++ (wsL_law_r14 ++ (wsL_law_r15 ++ (wsL_law_r16 ++ (wsL_law_r17 ++ (wsL_law_r18 ++ (wsL_law_r19 ++ (wsL_law_r20 ++ (wsL_law_r21 ++ (wsL_law_r22 ++ wsL_law_r23)))))))))))))))))))))) ++ wsX40 ++ wsX50 ++ wsX30 ++ wsX20 ++ wsX00 ++ wsX10 ++ ([] : List Cond)
abbrev vwCl : List vw_C := [(RX0, TX0, 3), (RX1, TX1, 3), (RX2, TX2, 3), (RX3, TX3, 8), (RX4, TX4, 6), (RX5, TX5, 11)]
end
section
theorem dX0_init_0 : decode cX0_init 0 = .ok (.aload_n 0, 1) := by decide +kernel
theorem dX0_init_1 : decode cX0_init 1 = .ok (.invokespecial 3, 3) := by decide +kernel
theorem dX0_init_4 : decode cX0_init 4 = .ok (.aload_n 0, 1) := by decide +kernel
theorem dX0_init_5 : decode cX0_init 5 = .ok (.bipush 20, 2) := by decide +kernel
theorem dX0_init_7 : decode cX0_init 7 = .ok (.newarray .int, 2) := by decide +kernel
theorem dX0_init_9 : decode cX0_init 9 = .ok (.putfield 9, 3) := by decide +kernel
theorem dX0_init_12 : decode cX0_init 12 = .ok (.aload_n 0, 1) := by decide +kernel
theorem dX0_init_13 : decode cX0_init 13 = .ok (.bipush 20, 2) := by decide +kernel
theorem dX0_init_15 : decode cX0_init 15 = .ok (.newarray .int, 2) := by decide +kernel
theorem dX0_init_17 : decode cX0_init 17 = .ok (.putfield 15, 3) := by decide +kernel
theorem dX0_init_20 : decode cX0_init 20 = .ok (.aload_n 0, 1) := by decide +kernel
theorem dX0_init_21 : decode cX0_init 21 = .ok (.iconst 0, 1) := by decide +kernel
theorem dX0_init_22 : decode cX0_init 22 = .ok (.putfield 18, 3) := by decide +kernel
theorem dX0_init_25 : decode cX0_init 25 = .ok (.return_, 1) := by decide +kernel
theorem dX0_add_0 : decode cX0_add 0 = .ok (.aload_n 0, 1) := by decide +kernel
theorem dX0_add_1 : decode cX0_add 1 = .ok (.getfield 18, 3) := by decide +kernel
theorem dX0_add_4 : decode cX0_add 4 = .ok (.bipush 20, 2) := by decide +kernel
theorem dX0_add_6 : decode cX0_add 6 = .ok (.if_icmp .lt 4, 3) := by decide +kernel
theorem dX0_add_9 : decode cX0_add 9 = .ok (.return_, 1) := by decide +kernel
theorem dX0_add_10 : decode cX0_add 10 = .ok (.aload_n 0, 1) := by decide +kernel
theorem dX0_add_11 : decode cX0_add 11 = .ok (.getfield 9, 3) := by decide +kernel
theorem dX0_add_14 : decode cX0_add 14 = .ok (.aload_n 0, 1) := by decide +kernel
theorem dX0_add_15 : decode cX0_add 15 = .ok (.getfield 18, 3) := by decide +kernel
theorem dX0_add_18 : decode cX0_add 18 = .ok (.iload_n 1, 1) := by decide +kernel
theorem dX0_add_19 : decode cX0_add 19 = .ok (.iastore, 1) := by decide +kernel
theorem dX0_add_20 : decode cX0_add 20 = .ok (.aload_n 0, 1) := by decide +kernel
theorem dX0_add_21 : decode cX0_add 21 = .ok (.getfield 15, 3) := by decide +kernel
theorem dX0_add_24 : decode cX0_add 24 = .ok (.aload_n 0, 1) := by decide +kernel
theorem dX0_add_25 : decode cX0_add 25 = .ok (.getfield 18, 3) := by decide +kernel
theorem dX0_add_28 : decode cX0_add 28 = .ok (.iload_n 2, 1) := by decide +kernel
theorem dX0_add_29 : decode cX0_add 29 = .ok (.iastore, 1) := by decide +kernel
theorem dX0_add_30 : decode cX0_add 30 = .ok (.aload_n 0, 1) := by decide +kernel
theorem dX0_add_31 : decode cX0_add 31 = .ok (.dup, 1) := by decide +kernel
theorem dX0_add_32 : decode cX0_add 32 = .ok (.getfield 18, 3) := by decide +kernel
theorem dX0_add_35 : decode cX0_add 35 = .ok (.iconst 1, 1) := by decide +kernel
theorem dX0_add_36 : decode cX0_add 36 = .ok (.iadd, 1) := by decide +kernel
theorem dX0_add_37 : decode cX0_add 37 = .ok (.putfield 18, 3) := by decide +kernel
theorem dX0_add_40 : decode cX0_add 40 = .ok (.return_, 1) := by decide +kernel
set_option maxRecDepth 20000 in
theorem ggX0_firstWrong_X3_has : GoodIn wsX0_firstWrong wsX3_has := goodIn_r _ [9, 10, 14, 15, 16, 17, 18, 19, 20, 21] (by decide +kernel) (by decide +kernel)
set_option maxRecDepth 20000 in
theorem gX0_firstWrong_X3_has : GoodIn wsX0_firstWrong (wsV RX0 22 RX3 yX3_has wsX3_has) := goodIn_app (goodIn_of _ (by decide +kernel)) ggX0_firstWrong_X3_has
theorem dX0_firstWrong_0 : decode cX0_firstWrong 0 = .ok (.iconst 0, 1) := by decide +kernel
theorem dX0_firstWrong_1 : decode cX0_firstWrong 1 = .ok (.istore_n 2, 1) := by decide +kernel
theorem dX0_firstWrong_2 : decode cX0_firstWrong 2 = .ok (.iload_n 2, 1) := by decide +kernel
theorem dX0_firstWrong_3 : decode cX0_firstWrong 3 = .ok (.aload_n 0, 1) := by decide +kernel
theorem dX0_firstWrong_4 : decode cX0_firstWrong 4 = .ok (.getfield 18, 3) := by decide +kernel
theorem dX0_firstWrong_7 : decode cX0_firstWrong 7 = .ok (.if_icmp .ge 44, 3) := by decide +kernel
theorem dX0_firstWrong_10 : decode cX0_firstWrong 10 = .ok (.aload_n 1, 1) := by decide +kernel
theorem dX0_firstWrong_11 : decode cX0_firstWrong 11 = .ok (.aload_n 0, 1) := by decide +kernel
theorem dX0_firstWrong_12 : decode cX0_firstWrong 12 = .ok (.getfield 9, 3) := by decide +kernel
theorem dX0_firstWrong_15 : decode cX0_firstWrong 15 = .ok (.iload_n 2, 1) := by decide +kernel
theorem dX0_firstWrong_16 : decode cX0_firstWrong 16 = .ok (.iaload, 1) := by decide +kernel
theorem dX0_firstWrong_17 : decode cX0_firstWrong 17 = .ok (.invokevirtual 22, 3) := by decide +kernel
theorem dX0_firstWrong_20 : decode cX0_firstWrong 20 = .ok (.ifCond .eq 23, 3) := by decide +kernel
theorem dX0_firstWrong_23 : decode cX0_firstWrong 23 = .ok (.aload_n 1, 1) := by decide +kernel
theorem dX0_firstWrong_24 : decode cX0_firstWrong 24 = .ok (.getfield 28, 3) := by decide +kernel
theorem dX0_firstWrong_27 : decode cX0_firstWrong 27 = .ok (.aload_n 0, 1) := by decide +kernel
theorem dX0_firstWrong_28 : decode cX0_firstWrong 28 = .ok (.getfield 9, 3) := by decide +kernel
theorem dX0_firstWrong_31 : decode cX0_firstWrong 31 = .ok (.iload_n 2, 1) := by decide +kernel
theorem dX0_firstWrong_32 : decode cX0_firstWrong 32 = .ok (.iaload, 1) := by decide +kernel
theorem dX0_firstWrong_33 : decode cX0_firstWrong 33 = .ok (.iaload, 1) := by decide +kernel
theorem dX0_firstWrong_34 : decode cX0_firstWrong 34 = .ok (.aload_n 0, 1) := by decide +kernel
theorem dX0_firstWrong_35 : decode cX0_firstWrong 35 = .ok (.getfield 15, 3) := by decide +kernel
theorem dX0_firstWrong_38 : decode cX0_firstWrong 38 = .ok (.iload_n 2, 1) := by decide +kernel
theorem dX0_firstWrong_39 : decode cX0_firstWrong 39 = .ok (.iaload, 1) := by decide +kernel
theorem dX0_firstWrong_40 : decode cX0_firstWrong 40 = .ok (.if_icmp .eq 5, 3) := by decide +kernel
theorem dX0_firstWrong_43 : decode cX0_firstWrong 43 = .ok (.iload_n 2, 1) := by decide +kernel
theorem dX0_firstWrong_44 : decode cX0_firstWrong 44 = .ok (.ireturn, 1) := by decide +kernel
theorem dX0_firstWrong_45 : decode cX0_firstWrong 45 = .ok (.iinc 2 1, 3) := by decide +kernel
theorem dX0_firstWrong_48 : decode cX0_firstWrong 48 = .ok (.goto (-46), 3) := by decide +kernel
theorem dX0_firstWrong_51 : decode cX0_firstWrong 51 = .ok (.iconst (-1), 1) := by decide +kernel
theorem dX0_firstWrong_52 : decode cX0_firstWrong 52 = .ok (.ireturn, 1) := by decide +kernel
set_option maxRecDepth 20000 in
theorem ggX1_init_X3_init : GoodIn wsX1_init wsX3_init := goodIn_r _ [11, 12, 2, 3, 13, 14, 15, 16, 17, 18, 19, 20, 21, 22, 23, 24, 25, 26, 27, 28, 29] (by decide +kernel) (by decide +kernel)
set_option maxRecDepth 20000 in
theorem gX1_init_X3_init_n9 : GoodIn wsX1_init (wsX3_init) := ggX1_init_X3_init
theorem dX1_init_0 : decode cX1_init 0 = .ok (.aload_n 0, 1) := by decide +kernel
theorem dX1_init_1 : decode cX1_init 1 = .ok (.invokespecial 1, 3) := by decide +kernel
theorem dX1_init_4 : decode cX1_init 4 = .ok (.aload_n 0, 1) := by decide +kernel
theorem dX1_init_5 : decode cX1_init 5 = .ok (.new 7, 3) := by decide +kernel
theorem dX1_init_8 : decode cX1_init 8 = .ok (.dup, 1) := by decide +kernel
theorem dX1_init_9 : decode cX1_init 9 = .ok (.invokespecial 9, 3) := by decide +kernel
theorem dX1_init_12 : decode cX1_init 12 = .ok (.putfield 10, 3) := by decide +kernel
theorem dX1_init_15 : decode cX1_init 15 = .ok (.aload_n 0, 1) := by decide +kernel
theorem dX1_init_16 : decode cX1_init 16 = .ok (.iconst 0, 1) := by decide +kernel
theorem dX1_init_17 : decode cX1_init 17 = .ok (.putfield 16, 3) := by decide +kernel
theorem dX1_init_20 : decode cX1_init 20 = .ok (.aload_n 0, 1) := by decide +kernel
theorem dX1_init_21 : decode cX1_init 21 = .ok (.iconst 0, 1) := by decide +kernel
theorem dX1_init_22 : decode cX1_init 22 = .ok (.putfield 20, 3) := by decide +kernel
theorem dX1_init_25 : decode cX1_init 25 = .ok (.return_, 1) := by decide +kernel
set_option maxRecDepth 20000 in
theorem ggX1_take_X3_copyFrom : GoodIn wsX1_take wsX3_copyFrom := goodIn_r _ [8, 9, 10, 11, 12, 13, 14, 15, 19, 20, 21, 22, 23, 24, 25, 26] (by decide +kernel) (by decide +kernel)
set_option maxRecDepth 20000 in
theorem gX1_take_X3_copyFrom : GoodIn wsX1_take (wsV RX1 24 RX3 yX3_copyFrom wsX3_copyFrom) := goodIn_app (goodIn_of _ (by decide +kernel)) ggX1_take_X3_copyFrom
theorem dX1_take_0 : decode cX1_take 0 = .ok (.aload_n 0, 1) := by decide +kernel
theorem dX1_take_1 : decode cX1_take 1 = .ok (.getfield 10, 3) := by decide +kernel
theorem dX1_take_4 : decode cX1_take 4 = .ok (.aload_n 1, 1) := by decide +kernel
theorem dX1_take_5 : decode cX1_take 5 = .ok (.invokevirtual 24, 3) := by decide +kernel
theorem dX1_take_8 : decode cX1_take 8 = .ok (.aload_n 0, 1) := by decide +kernel
theorem dX1_take_9 : decode cX1_take 9 = .ok (.iload_n 2, 1) := by decide +kernel
theorem dX1_take_10 : decode cX1_take 10 = .ok (.putfield 16, 3) := by decide +kernel
theorem dX1_take_13 : decode cX1_take 13 = .ok (.aload_n 0, 1) := by decide +kernel
theorem dX1_take_14 : decode cX1_take 14 = .ok (.iconst 1, 1) := by decide +kernel
theorem dX1_take_15 : decode cX1_take 15 = .ok (.putfield 20, 3) := by decide +kernel
theorem dX1_take_18 : decode cX1_take 18 = .ok (.return_, 1) := by decide +kernel
set_option maxRecDepth 20000 in
theorem ggX2_init_X3_init : GoodIn wsX2_init wsX3_init := goodIn_r _ [11, 12, 2, 3, 13, 14, 15, 16, 17, 18, 19, 20, 21, 25, 26, 27, 28, 29, 30, 31, 32] (by decide +kernel) (by decide +kernel)
set_option maxRecDepth 20000 in
theorem gX2_init_X3_init_n24 : GoodIn wsX2_init (wsX3_init) := ggX2_init_X3_init
theorem dX2_init_0 : decode cX2_init 0 = .ok (.aload_n 0, 1) := by decide +kernel
theorem dX2_init_1 : decode cX2_init 1 = .ok (.invokespecial 3, 3) := by decide +kernel
theorem dX2_init_4 : decode cX2_init 4 = .ok (.aload_n 0, 1) := by decide +kernel
theorem dX2_init_5 : decode cX2_init 5 = .ok (.bipush 20, 2) := by decide +kernel
theorem dX2_init_7 : decode cX2_init 7 = .ok (.anewarray 9, 3) := by decide +kernel
theorem dX2_init_10 : decode cX2_init 10 = .ok (.putfield 11, 3) := by decide +kernel
theorem dX2_init_13 : decode cX2_init 13 = .ok (.aload_n 0, 1) := by decide +kernel
theorem dX2_init_14 : decode cX2_init 14 = .ok (.iconst 0, 1) := by decide +kernel
theorem dX2_init_15 : decode cX2_init 15 = .ok (.putfield 17, 3) := by decide +kernel
theorem dX2_init_18 : decode cX2_init 18 = .ok (.aload_n 0, 1) := by decide +kernel
theorem dX2_init_19 : decode cX2_init 19 = .ok (.iconst 0, 1) := by decide +kernel
theorem dX2_init_20 : decode cX2_init 20 = .ok (.putfield 21, 3) := by decide +kernel
theorem dX2_init_23 : decode cX2_init 23 = .ok (.iconst 0, 1) := by decide +kernel
theorem dX2_init_24 : decode cX2_init 24 = .ok (.istore_n 1, 1) := by decide +kernel
theorem dX2_init_25 : decode cX2_init 25 = .ok (.iload_n 1, 1) := by decide +kernel
theorem dX2_init_26 : decode cX2_init 26 = .ok (.bipush 20, 2) := by decide +kernel
theorem dX2_init_28 : decode cX2_init 28 = .ok (.if_icmp .ge 22, 3) := by decide +kernel
theorem dX2_init_31 : decode cX2_init 31 = .ok (.aload_n 0, 1) := by decide +kernel
theorem dX2_init_32 : decode cX2_init 32 = .ok (.getfield 11, 3) := by decide +kernel
theorem dX2_init_35 : decode cX2_init 35 = .ok (.iload_n 1, 1) := by decide +kernel
theorem dX2_init_36 : decode cX2_init 36 = .ok (.new 9, 3) := by decide +kernel
theorem dX2_init_39 : decode cX2_init 39 = .ok (.dup, 1) := by decide +kernel
theorem dX2_init_40 : decode cX2_init 40 = .ok (.invokespecial 24, 3) := by decide +kernel
theorem dX2_init_43 : decode cX2_init 43 = .ok (.aastore, 1) := by decide +kernel
theorem dX2_init_44 : decode cX2_init 44 = .ok (.iinc 1 1, 3) := by decide +kernel
theorem dX2_init_47 : decode cX2_init 47 = .ok (.goto (-22), 3) := by decide +kernel
theorem dX2_init_50 : decode cX2_init 50 = .ok (.return_, 1) := by decide +kernel
set_option maxRecDepth 20000 in
theorem ggX2_note_X3_copyFrom : GoodIn wsX2_note wsX3_copyFrom := goodIn_r _ [12, 13, 14, 15, 16, 17, 18, 19, 23, 24, 25, 26, 27, 28, 29, 30] (by decide +kernel) (by decide +kernel)
set_option maxRecDepth 20000 in
theorem gX2_note_X3_copyFrom : GoodIn wsX2_note (wsV RX2 25 RX3 yX3_copyFrom wsX3_copyFrom) := goodIn_app (goodIn_of _ (by decide +kernel)) ggX2_note_X3_copyFrom
theorem dX2_note_0 : decode cX2_note 0 = .ok (.aload_n 0, 1) := by decide +kernel
theorem dX2_note_1 : decode cX2_note 1 = .ok (.getfield 11, 3) := by decide +kernel
theorem dX2_note_4 : decode cX2_note 4 = .ok (.aload_n 0, 1) := by decide +kernel
theorem dX2_note_5 : decode cX2_note 5 = .ok (.getfield 17, 3) := by decide +kernel
theorem dX2_note_8 : decode cX2_note 8 = .ok (.aaload, 1) := by decide +kernel
theorem dX2_note_9 : decode cX2_note 9 = .ok (.aload_n 1, 1) := by decide +kernel
theorem dX2_note_10 : decode cX2_note 10 = .ok (.invokevirtual 25, 3) := by decide +kernel
theorem dX2_note_13 : decode cX2_note 13 = .ok (.aload_n 0, 1) := by decide +kernel
theorem dX2_note_14 : decode cX2_note 14 = .ok (.aload_n 0, 1) := by decide +kernel
theorem dX2_note_15 : decode cX2_note 15 = .ok (.getfield 17, 3) := by decide +kernel
theorem dX2_note_18 : decode cX2_note 18 = .ok (.iconst 1, 1) := by decide +kernel
theorem dX2_note_19 : decode cX2_note 19 = .ok (.iadd, 1) := by decide +kernel
theorem dX2_note_20 : decode cX2_note 20 = .ok (.bipush 20, 2) := by decide +kernel
theorem dX2_note_22 : decode cX2_note 22 = .ok (.irem, 1) := by decide +kernel
theorem dX2_note_23 : decode cX2_note 23 = .ok (.putfield 17, 3) := by decide +kernel
theorem dX2_note_26 : decode cX2_note 26 = .ok (.aload_n 0, 1) := by decide +kernel
theorem dX2_note_27 : decode cX2_note 27 = .ok (.aload_n 0, 1) := by decide +kernel
theorem dX2_note_28 : decode cX2_note 28 = .ok (.getfield 21, 3) := by decide +kernel
theorem dX2_note_31 : decode cX2_note 31 = .ok (.iconst 1, 1) := by decide +kernel
theorem dX2_note_32 : decode cX2_note 32 = .ok (.iadd, 1) := by decide +kernel
theorem dX2_note_33 : decode cX2_note 33 = .ok (.bipush 20, 2) := by decide +kernel
theorem dX2_note_35 : decode cX2_note 35 = .ok (.invokestatic 29, 3) := by decide +kernel
theorem dX2_note_38 : decode cX2_note 38 = .ok (.putfield 21, 3) := by decide +kernel
theorem dX2_note_41 : decode cX2_note 41 = .ok (.return_, 1) := by decide +kernel
set_option maxRecDepth 20000 in
theorem ggX2_takeBack_X3_copyFrom : GoodIn wsX2_takeBack wsX3_copyFrom := goodIn_r _ [8, 9, 10, 11, 12, 13, 14, 15, 19, 20, 21, 22, 23, 24, 25, 26] (by decide +kernel) (by decide +kernel)
set_option maxRecDepth 20000 in
theorem gX2_takeBack_X3_copyFrom : GoodIn wsX2_takeBack (wsV RX2 25 RX3 yX3_copyFrom wsX3_copyFrom) := goodIn_app (goodIn_of _ (by decide +kernel)) ggX2_takeBack_X3_copyFrom
theorem dX2_takeBack_0 : decode cX2_takeBack 0 = .ok (.iload_n 1, 1) := by decide +kernel
theorem dX2_takeBack_1 : decode cX2_takeBack 1 = .ok (.iconst 1, 1) := by decide +kernel
theorem dX2_takeBack_2 : decode cX2_takeBack 2 = .ok (.if_icmp .lt 11, 3) := by decide +kernel
theorem dX2_takeBack_5 : decode cX2_takeBack 5 = .ok (.iload_n 1, 1) := by decide +kernel
theorem dX2_takeBack_6 : decode cX2_takeBack 6 = .ok (.aload_n 0, 1) := by decide +kernel
theorem dX2_takeBack_7 : decode cX2_takeBack 7 = .ok (.getfield 21, 3) := by decide +kernel
theorem dX2_takeBack_10 : decode cX2_takeBack 10 = .ok (.if_icmp .le 4, 3) := by decide +kernel
theorem dX2_takeBack_13 : decode cX2_takeBack 13 = .ok (.return_, 1) := by decide +kernel
theorem dX2_takeBack_14 : decode cX2_takeBack 14 = .ok (.aload_n 0, 1) := by decide +kernel
theorem dX2_takeBack_15 : decode cX2_takeBack 15 = .ok (.aload_n 0, 1) := by decide +kernel
theorem dX2_takeBack_16 : decode cX2_takeBack 16 = .ok (.getfield 17, 3) := by decide +kernel
theorem dX2_takeBack_19 : decode cX2_takeBack 19 = .ok (.bipush 20, 2) := by decide +kernel
theorem dX2_takeBack_21 : decode cX2_takeBack 21 = .ok (.iadd, 1) := by decide +kernel
theorem dX2_takeBack_22 : decode cX2_takeBack 22 = .ok (.iload_n 1, 1) := by decide +kernel
theorem dX2_takeBack_23 : decode cX2_takeBack 23 = .ok (.isub, 1) := by decide +kernel
theorem dX2_takeBack_24 : decode cX2_takeBack 24 = .ok (.bipush 20, 2) := by decide +kernel
theorem dX2_takeBack_26 : decode cX2_takeBack 26 = .ok (.irem, 1) := by decide +kernel
theorem dX2_takeBack_27 : decode cX2_takeBack 27 = .ok (.putfield 17, 3) := by decide +kernel
theorem dX2_takeBack_30 : decode cX2_takeBack 30 = .ok (.aload_n 0, 1) := by decide +kernel
theorem dX2_takeBack_31 : decode cX2_takeBack 31 = .ok (.dup, 1) := by decide +kernel
theorem dX2_takeBack_32 : decode cX2_takeBack 32 = .ok (.getfield 21, 3) := by decide +kernel
theorem dX2_takeBack_35 : decode cX2_takeBack 35 = .ok (.iload_n 1, 1) := by decide +kernel
theorem dX2_takeBack_36 : decode cX2_takeBack 36 = .ok (.isub, 1) := by decide +kernel
theorem dX2_takeBack_37 : decode cX2_takeBack 37 = .ok (.putfield 21, 3) := by decide +kernel
theorem dX2_takeBack_40 : decode cX2_takeBack 40 = .ok (.aload_n 2, 1) := by decide +kernel
theorem dX2_takeBack_41 : decode cX2_takeBack 41 = .ok (.aload_n 0, 1) := by decide +kernel
theorem dX2_takeBack_42 : decode cX2_takeBack 42 = .ok (.getfield 11, 3) := by decide +kernel
theorem dX2_takeBack_45 : decode cX2_takeBack 45 = .ok (.aload_n 0, 1) := by decide +kernel
theorem dX2_takeBack_46 : decode cX2_takeBack 46 = .ok (.getfield 17, 3) := by decide +kernel
theorem dX2_takeBack_49 : decode cX2_takeBack 49 = .ok (.aaload, 1) := by decide +kernel
theorem dX2_takeBack_50 : decode cX2_takeBack 50 = .ok (.invokevirtual 25, 3) := by decide +kernel
theorem dX2_takeBack_53 : decode cX2_takeBack 53 = .ok (.return_, 1) := by decide +kernel
theorem dX2_forget_0 : decode cX2_forget 0 = .ok (.aload_n 0, 1) := by decide +kernel
theorem dX2_forget_1 : decode cX2_forget 1 = .ok (.iconst 0, 1) := by decide +kernel
theorem dX2_forget_2 : decode cX2_forget 2 = .ok (.putfield 21, 3) := by decide +kernel
theorem dX2_forget_5 : decode cX2_forget 5 = .ok (.return_, 1) := by decide +kernel
theorem dX3_init_0 : decode cX3_init 0 = .ok (.aload_n 0, 1) := by decide +kernel
theorem dX3_init_1 : decode cX3_init 1 = .ok (.invokespecial 3, 3) := by decide +kernel
theorem dX3_init_4 : decode cX3_init 4 = .ok (.aload_n 0, 1) := by decide +kernel
theorem dX3_init_5 : decode cX3_init 5 = .ok (.iconst 4, 1) := by decide +kernel
theorem dX3_init_6 : decode cX3_init 6 = .ok (.newarray .int, 2) := by decide +kernel
theorem dX3_init_8 : decode cX3_init 8 = .ok (.dup, 1) := by decide +kernel
theorem dX3_init_9 : decode cX3_init 9 = .ok (.iconst 0, 1) := by decide +kernel
theorem dX3_init_10 : decode cX3_init 10 = .ok (.bipush 20, 2) := by decide +kernel
theorem dX3_init_12 : decode cX3_init 12 = .ok (.iastore, 1) := by decide +kernel
theorem dX3_init_13 : decode cX3_init 13 = .ok (.dup, 1) := by decide +kernel
theorem dX3_init_14 : decode cX3_init 14 = .ok (.iconst 1, 1) := by decide +kernel
theorem dX3_init_15 : decode cX3_init 15 = .ok (.bipush 60, 2) := by decide +kernel
theorem dX3_init_17 : decode cX3_init 17 = .ok (.iastore, 1) := by decide +kernel
theorem dX3_init_18 : decode cX3_init 18 = .ok (.dup, 1) := by decide +kernel
theorem dX3_init_19 : decode cX3_init 19 = .ok (.iconst 2, 1) := by decide +kernel
theorem dX3_init_20 : decode cX3_init 20 = .ok (.iconst 0, 1) := by decide +kernel
theorem dX3_init_21 : decode cX3_init 21 = .ok (.iastore, 1) := by decide +kernel
theorem dX3_init_22 : decode cX3_init 22 = .ok (.dup, 1) := by decide +kernel
theorem dX3_init_23 : decode cX3_init 23 = .ok (.iconst 3, 1) := by decide +kernel
theorem dX3_init_24 : decode cX3_init 24 = .ok (.iconst 0, 1) := by decide +kernel
theorem dX3_init_25 : decode cX3_init 25 = .ok (.iastore, 1) := by decide +kernel
theorem dX3_init_26 : decode cX3_init 26 = .ok (.putfield 9, 3) := by decide +kernel
theorem dX3_init_29 : decode cX3_init 29 = .ok (.aload_n 0, 1) := by decide +kernel
theorem dX3_init_30 : decode cX3_init 30 = .ok (.bipush 8, 2) := by decide +kernel
theorem dX3_init_32 : decode cX3_init 32 = .ok (.newarray .int, 2) := by decide +kernel
theorem dX3_init_34 : decode cX3_init 34 = .ok (.putfield 15, 3) := by decide +kernel
theorem dX3_init_37 : decode cX3_init 37 = .ok (.aload_n 0, 1) := by decide +kernel
theorem dX3_init_38 : decode cX3_init 38 = .ok (.bipush 8, 2) := by decide +kernel
theorem dX3_init_40 : decode cX3_init 40 = .ok (.newarray .int, 2) := by decide +kernel
theorem dX3_init_42 : decode cX3_init 42 = .ok (.putfield 18, 3) := by decide +kernel
theorem dX3_init_45 : decode cX3_init 45 = .ok (.aload_n 0, 1) := by decide +kernel
theorem dX3_init_46 : decode cX3_init 46 = .ok (.bipush 8, 2) := by decide +kernel
theorem dX3_init_48 : decode cX3_init 48 = .ok (.newarray .int, 2) := by decide +kernel
theorem dX3_init_50 : decode cX3_init 50 = .ok (.putfield 21, 3) := by decide +kernel
theorem dX3_init_53 : decode cX3_init 53 = .ok (.aload_n 0, 1) := by decide +kernel
theorem dX3_init_54 : decode cX3_init 54 = .ok (.bipush 8, 2) := by decide +kernel
theorem dX3_init_56 : decode cX3_init 56 = .ok (.newarray .int, 2) := by decide +kernel
theorem dX3_init_58 : decode cX3_init 58 = .ok (.putfield 24, 3) := by decide +kernel
theorem dX3_init_61 : decode cX3_init 61 = .ok (.aload_n 0, 1) := by decide +kernel
theorem dX3_init_62 : decode cX3_init 62 = .ok (.iconst 0, 1) := by decide +kernel
theorem dX3_init_63 : decode cX3_init 63 = .ok (.putfield 27, 3) := by decide +kernel
theorem dX3_init_66 : decode cX3_init 66 = .ok (.aload_n 0, 1) := by decide +kernel
theorem dX3_init_67 : decode cX3_init 67 = .ok (.iconst 0, 1) := by decide +kernel
theorem dX3_init_68 : decode cX3_init 68 = .ok (.putfield 31, 3) := by decide +kernel
theorem dX3_init_71 : decode cX3_init 71 = .ok (.aload_n 0, 1) := by decide +kernel
theorem dX3_init_72 : decode cX3_init 72 = .ok (.iconst 0, 1) := by decide +kernel
theorem dX3_init_73 : decode cX3_init 73 = .ok (.putfield 34, 3) := by decide +kernel
theorem dX3_init_76 : decode cX3_init 76 = .ok (.return_, 1) := by decide +kernel
theorem dX3_copyFrom_0 : decode cX3_copyFrom 0 = .ok (.iconst 0, 1) := by decide +kernel
theorem dX3_copyFrom_1 : decode cX3_copyFrom 1 = .ok (.istore_n 2, 1) := by decide +kernel
theorem dX3_copyFrom_2 : decode cX3_copyFrom 2 = .ok (.iload_n 2, 1) := by decide +kernel
theorem dX3_copyFrom_3 : decode cX3_copyFrom 3 = .ok (.iconst 4, 1) := by decide +kernel
theorem dX3_copyFrom_4 : decode cX3_copyFrom 4 = .ok (.if_icmp .ge 21, 3) := by decide +kernel
theorem dX3_copyFrom_7 : decode cX3_copyFrom 7 = .ok (.aload_n 0, 1) := by decide +kernel
theorem dX3_copyFrom_8 : decode cX3_copyFrom 8 = .ok (.getfield 9, 3) := by decide +kernel
theorem dX3_copyFrom_11 : decode cX3_copyFrom 11 = .ok (.iload_n 2, 1) := by decide +kernel
theorem dX3_copyFrom_12 : decode cX3_copyFrom 12 = .ok (.aload_n 1, 1) := by decide +kernel
theorem dX3_copyFrom_13 : decode cX3_copyFrom 13 = .ok (.getfield 9, 3) := by decide +kernel
theorem dX3_copyFrom_16 : decode cX3_copyFrom 16 = .ok (.iload_n 2, 1) := by decide +kernel
theorem dX3_copyFrom_17 : decode cX3_copyFrom 17 = .ok (.iaload, 1) := by decide +kernel
theorem dX3_copyFrom_18 : decode cX3_copyFrom 18 = .ok (.iastore, 1) := by decide +kernel
theorem dX3_copyFrom_19 : decode cX3_copyFrom 19 = .ok (.iinc 2 1, 3) := by decide +kernel
theorem dX3_copyFrom_22 : decode cX3_copyFrom 22 = .ok (.goto (-20), 3) := by decide +kernel
theorem dX3_copyFrom_25 : decode cX3_copyFrom 25 = .ok (.iconst 0, 1) := by decide +kernel
theorem dX3_copyFrom_26 : decode cX3_copyFrom 26 = .ok (.istore_n 2, 1) := by decide +kernel
theorem dX3_copyFrom_27 : decode cX3_copyFrom 27 = .ok (.iload_n 2, 1) := by decide +kernel
theorem dX3_copyFrom_28 : decode cX3_copyFrom 28 = .ok (.aload_n 1, 1) := by decide +kernel
theorem dX3_copyFrom_29 : decode cX3_copyFrom 29 = .ok (.getfield 31, 3) := by decide +kernel
theorem dX3_copyFrom_32 : decode cX3_copyFrom 32 = .ok (.if_icmp .ge 45, 3) := by decide +kernel
theorem dX3_copyFrom_35 : decode cX3_copyFrom 35 = .ok (.aload_n 0, 1) := by decide +kernel
theorem dX3_copyFrom_36 : decode cX3_copyFrom 36 = .ok (.getfield 15, 3) := by decide +kernel
theorem dX3_copyFrom_39 : decode cX3_copyFrom 39 = .ok (.iload_n 2, 1) := by decide +kernel
theorem dX3_copyFrom_40 : decode cX3_copyFrom 40 = .ok (.aload_n 1, 1) := by decide +kernel
theorem dX3_copyFrom_41 : decode cX3_copyFrom 41 = .ok (.getfield 15, 3) := by decide +kernel
theorem dX3_copyFrom_44 : decode cX3_copyFrom 44 = .ok (.iload_n 2, 1) := by decide +kernel
theorem dX3_copyFrom_45 : decode cX3_copyFrom 45 = .ok (.iaload, 1) := by decide +kernel
theorem dX3_copyFrom_46 : decode cX3_copyFrom 46 = .ok (.iastore, 1) := by decide +kernel
theorem dX3_copyFrom_47 : decode cX3_copyFrom 47 = .ok (.aload_n 0, 1) := by decide +kernel
theorem dX3_copyFrom_48 : decode cX3_copyFrom 48 = .ok (.getfield 18, 3) := by decide +kernel
theorem dX3_copyFrom_51 : decode cX3_copyFrom 51 = .ok (.iload_n 2, 1) := by decide +kernel
theorem dX3_copyFrom_52 : decode cX3_copyFrom 52 = .ok (.aload_n 1, 1) := by decide +kernel
theorem dX3_copyFrom_53 : decode cX3_copyFrom 53 = .ok (.getfield 18, 3) := by decide +kernel
theorem dX3_copyFrom_56 : decode cX3_copyFrom 56 = .ok (.iload_n 2, 1) := by decide +kernel
theorem dX3_copyFrom_57 : decode cX3_copyFrom 57 = .ok (.iaload, 1) := by decide +kernel
theorem dX3_copyFrom_58 : decode cX3_copyFrom 58 = .ok (.iastore, 1) := by decide +kernel
theorem dX3_copyFrom_59 : decode cX3_copyFrom 59 = .ok (.aload_n 0, 1) := by decide +kernel
theorem dX3_copyFrom_60 : decode cX3_copyFrom 60 = .ok (.getfield 21, 3) := by decide +kernel
theorem dX3_copyFrom_63 : decode cX3_copyFrom 63 = .ok (.iload_n 2, 1) := by decide +kernel
theorem dX3_copyFrom_64 : decode cX3_copyFrom 64 = .ok (.aload_n 1, 1) := by decide +kernel
theorem dX3_copyFrom_65 : decode cX3_copyFrom 65 = .ok (.getfield 21, 3) := by decide +kernel
theorem dX3_copyFrom_68 : decode cX3_copyFrom 68 = .ok (.iload_n 2, 1) := by decide +kernel
theorem dX3_copyFrom_69 : decode cX3_copyFrom 69 = .ok (.iaload, 1) := by decide +kernel
theorem dX3_copyFrom_70 : decode cX3_copyFrom 70 = .ok (.iastore, 1) := by decide +kernel
theorem dX3_copyFrom_71 : decode cX3_copyFrom 71 = .ok (.iinc 2 1, 3) := by decide +kernel
theorem dX3_copyFrom_74 : decode cX3_copyFrom 74 = .ok (.goto (-47), 3) := by decide +kernel
theorem dX3_copyFrom_77 : decode cX3_copyFrom 77 = .ok (.aload_n 0, 1) := by decide +kernel
theorem dX3_copyFrom_78 : decode cX3_copyFrom 78 = .ok (.aload_n 1, 1) := by decide +kernel
theorem dX3_copyFrom_79 : decode cX3_copyFrom 79 = .ok (.getfield 27, 3) := by decide +kernel
theorem dX3_copyFrom_82 : decode cX3_copyFrom 82 = .ok (.putfield 27, 3) := by decide +kernel
theorem dX3_copyFrom_85 : decode cX3_copyFrom 85 = .ok (.aload_n 0, 1) := by decide +kernel
theorem dX3_copyFrom_86 : decode cX3_copyFrom 86 = .ok (.aload_n 1, 1) := by decide +kernel
theorem dX3_copyFrom_87 : decode cX3_copyFrom 87 = .ok (.getfield 31, 3) := by decide +kernel
theorem dX3_copyFrom_90 : decode cX3_copyFrom 90 = .ok (.putfield 31, 3) := by decide +kernel
theorem dX3_copyFrom_93 : decode cX3_copyFrom 93 = .ok (.aload_n 0, 1) := by decide +kernel
theorem dX3_copyFrom_94 : decode cX3_copyFrom 94 = .ok (.aload_n 1, 1) := by decide +kernel
theorem dX3_copyFrom_95 : decode cX3_copyFrom 95 = .ok (.getfield 34, 3) := by decide +kernel
theorem dX3_copyFrom_98 : decode cX3_copyFrom 98 = .ok (.putfield 34, 3) := by decide +kernel
theorem dX3_copyFrom_101 : decode cX3_copyFrom 101 = .ok (.return_, 1) := by decide +kernel
theorem dX3_empty_0 : decode cX3_empty 0 = .ok (.aload_n 0, 1) := by decide +kernel
theorem dX3_empty_1 : decode cX3_empty 1 = .ok (.iconst 0, 1) := by decide +kernel
theorem dX3_empty_2 : decode cX3_empty 2 = .ok (.putfield 27, 3) := by decide +kernel
theorem dX3_empty_5 : decode cX3_empty 5 = .ok (.aload_n 0, 1) := by decide +kernel
theorem dX3_empty_6 : decode cX3_empty 6 = .ok (.iconst 0, 1) := by decide +kernel
theorem dX3_empty_7 : decode cX3_empty 7 = .ok (.putfield 31, 3) := by decide +kernel
theorem dX3_empty_10 : decode cX3_empty 10 = .ok (.aload_n 0, 1) := by decide +kernel
theorem dX3_empty_11 : decode cX3_empty 11 = .ok (.iconst 0, 1) := by decide +kernel
theorem dX3_empty_12 : decode cX3_empty 12 = .ok (.putfield 34, 3) := by decide +kernel
theorem dX3_empty_15 : decode cX3_empty 15 = .ok (.return_, 1) := by decide +kernel
theorem dX3_has_0 : decode cX3_has 0 = .ok (.iload_n 1, 1) := by decide +kernel
theorem dX3_has_1 : decode cX3_has 1 = .ok (.ifCond .lt 15, 3) := by decide +kernel
theorem dX3_has_4 : decode cX3_has 4 = .ok (.iload_n 1, 1) := by decide +kernel
theorem dX3_has_5 : decode cX3_has 5 = .ok (.aload_n 0, 1) := by decide +kernel
theorem dX3_has_6 : decode cX3_has 6 = .ok (.getfield 31, 3) := by decide +kernel
theorem dX3_has_9 : decode cX3_has 9 = .ok (.if_icmp .ge 7, 3) := by decide +kernel
theorem dX3_has_12 : decode cX3_has 12 = .ok (.iconst 1, 1) := by decide +kernel
theorem dX3_has_13 : decode cX3_has 13 = .ok (.goto 4, 3) := by decide +kernel
theorem dX3_has_16 : decode cX3_has 16 = .ok (.iconst 0, 1) := by decide +kernel
theorem dX3_has_17 : decode cX3_has 17 = .ok (.ireturn, 1) := by decide +kernel
theorem dX3_ageOf_0 : decode cX3_ageOf 0 = .ok (.aload_n 0, 1) := by decide +kernel
theorem dX3_ageOf_1 : decode cX3_ageOf 1 = .ok (.getfield 27, 3) := by decide +kernel
theorem dX3_ageOf_4 : decode cX3_ageOf 4 = .ok (.aload_n 0, 1) := by decide +kernel
theorem dX3_ageOf_5 : decode cX3_ageOf 5 = .ok (.getfield 15, 3) := by decide +kernel
theorem dX3_ageOf_8 : decode cX3_ageOf 8 = .ok (.iload_n 1, 1) := by decide +kernel
theorem dX3_ageOf_9 : decode cX3_ageOf 9 = .ok (.iaload, 1) := by decide +kernel
theorem dX3_ageOf_10 : decode cX3_ageOf 10 = .ok (.isub, 1) := by decide +kernel
theorem dX3_ageOf_11 : decode cX3_ageOf 11 = .ok (.ireturn, 1) := by decide +kernel
set_option maxRecDepth 20000 in
theorem ggX3_strengthOf_X3_ageOf : GoodIn wsX3_strengthOf wsX3_ageOf := goodIn_r _ [7, 8, 9, 15, 16, 17, 18, 19, 20, 21, 22] (by decide +kernel) (by decide +kernel)
set_option maxRecDepth 20000 in
theorem gX3_strengthOf_X3_ageOf : GoodIn wsX3_strengthOf (wsV RX3 37 RX3 yX3_ageOf wsX3_ageOf) := goodIn_app (goodIn_of _ (by decide +kernel)) ggX3_strengthOf_X3_ageOf
set_option maxRecDepth 20000 in
theorem ggX3_strengthOf_X4_percentAt : GoodIn wsX3_strengthOf wsX4_percentAt := goodIn_r _ [12, 13, 14] (by decide +kernel) (by decide +kernel)
set_option maxRecDepth 20000 in
theorem gX3_strengthOf_X4_percentAt_n41 : GoodIn wsX3_strengthOf (wsX4_percentAt) := ggX3_strengthOf_X4_percentAt
theorem dX3_strengthOf_0 : decode cX3_strengthOf 0 = .ok (.aload_n 0, 1) := by decide +kernel
theorem dX3_strengthOf_1 : decode cX3_strengthOf 1 = .ok (.iload_n 1, 1) := by decide +kernel
theorem dX3_strengthOf_2 : decode cX3_strengthOf 2 = .ok (.invokevirtual 37, 3) := by decide +kernel
theorem dX3_strengthOf_5 : decode cX3_strengthOf 5 = .ok (.bipush 10, 2) := by decide +kernel
theorem dX3_strengthOf_7 : decode cX3_strengthOf 7 = .ok (.aload_n 0, 1) := by decide +kernel
theorem dX3_strengthOf_8 : decode cX3_strengthOf 8 = .ok (.getfield 18, 3) := by decide +kernel
theorem dX3_strengthOf_11 : decode cX3_strengthOf 11 = .ok (.iload_n 1, 1) := by decide +kernel
theorem dX3_strengthOf_12 : decode cX3_strengthOf 12 = .ok (.iaload, 1) := by decide +kernel
theorem dX3_strengthOf_13 : decode cX3_strengthOf 13 = .ok (.isub, 1) := by decide +kernel
theorem dX3_strengthOf_14 : decode cX3_strengthOf 14 = .ok (.imul, 1) := by decide +kernel
theorem dX3_strengthOf_15 : decode cX3_strengthOf 15 = .ok (.bipush 10, 2) := by decide +kernel
theorem dX3_strengthOf_17 : decode cX3_strengthOf 17 = .ok (.idiv, 1) := by decide +kernel
theorem dX3_strengthOf_18 : decode cX3_strengthOf 18 = .ok (.istore_n 2, 1) := by decide +kernel
theorem dX3_strengthOf_19 : decode cX3_strengthOf 19 = .ok (.aload_n 0, 1) := by decide +kernel
theorem dX3_strengthOf_20 : decode cX3_strengthOf 20 = .ok (.getfield 9, 3) := by decide +kernel
theorem dX3_strengthOf_23 : decode cX3_strengthOf 23 = .ok (.iconst 1, 1) := by decide +kernel
theorem dX3_strengthOf_24 : decode cX3_strengthOf 24 = .ok (.iaload, 1) := by decide +kernel
theorem dX3_strengthOf_25 : decode cX3_strengthOf 25 = .ok (.aload_n 0, 1) := by decide +kernel
theorem dX3_strengthOf_26 : decode cX3_strengthOf 26 = .ok (.getfield 9, 3) := by decide +kernel
theorem dX3_strengthOf_29 : decode cX3_strengthOf 29 = .ok (.iconst 2, 1) := by decide +kernel
theorem dX3_strengthOf_30 : decode cX3_strengthOf 30 = .ok (.iaload, 1) := by decide +kernel
theorem dX3_strengthOf_31 : decode cX3_strengthOf 31 = .ok (.iload_n 2, 1) := by decide +kernel
theorem dX3_strengthOf_32 : decode cX3_strengthOf 32 = .ok (.invokestatic 41, 3) := by decide +kernel
theorem dX3_strengthOf_35 : decode cX3_strengthOf 35 = .ok (.imul, 1) := by decide +kernel
theorem dX3_strengthOf_36 : decode cX3_strengthOf 36 = .ok (.bipush 100, 2) := by decide +kernel
theorem dX3_strengthOf_38 : decode cX3_strengthOf 38 = .ok (.idiv, 1) := by decide +kernel
theorem dX3_strengthOf_39 : decode cX3_strengthOf 39 = .ok (.ireturn, 1) := by decide +kernel
theorem dX3_isPropped_0 : decode cX3_isPropped 0 = .ok (.aload_n 0, 1) := by decide +kernel
theorem dX3_isPropped_1 : decode cX3_isPropped 1 = .ok (.getfield 34, 3) := by decide +kernel
theorem dX3_isPropped_4 : decode cX3_isPropped 4 = .ok (.iload_n 1, 1) := by decide +kernel
theorem dX3_isPropped_5 : decode cX3_isPropped 5 = .ok (.ishr, 1) := by decide +kernel
theorem dX3_isPropped_6 : decode cX3_isPropped 6 = .ok (.iconst 1, 1) := by decide +kernel
theorem dX3_isPropped_7 : decode cX3_isPropped 7 = .ok (.iand, 1) := by decide +kernel
theorem dX3_isPropped_8 : decode cX3_isPropped 8 = .ok (.iconst 1, 1) := by decide +kernel
theorem dX3_isPropped_9 : decode cX3_isPropped 9 = .ok (.if_icmp .ne 7, 3) := by decide +kernel
theorem dX3_isPropped_12 : decode cX3_isPropped 12 = .ok (.iconst 1, 1) := by decide +kernel
theorem dX3_isPropped_13 : decode cX3_isPropped 13 = .ok (.goto 4, 3) := by decide +kernel
theorem dX3_isPropped_16 : decode cX3_isPropped 16 = .ok (.iconst 0, 1) := by decide +kernel
theorem dX3_isPropped_17 : decode cX3_isPropped 17 = .ok (.ireturn, 1) := by decide +kernel
set_option maxRecDepth 20000 in
theorem ggX3_lowestPropped_X3_isPropped : GoodIn wsX3_lowestPropped wsX3_isPropped := goodIn_r _ [6, 7, 8, 9, 10, 11, 12, 13, 14, 15] (by decide +kernel) (by decide +kernel)
set_option maxRecDepth 20000 in
theorem gX3_lowestPropped_X3_isPropped : GoodIn wsX3_lowestPropped (wsV RX3 45 RX3 yX3_isPropped wsX3_isPropped) := goodIn_app (goodIn_of _ (by decide +kernel)) ggX3_lowestPropped_X3_isPropped
theorem dX3_lowestPropped_0 : decode cX3_lowestPropped 0 = .ok (.iconst 0, 1) := by decide +kernel
theorem dX3_lowestPropped_1 : decode cX3_lowestPropped 1 = .ok (.istore_n 1, 1) := by decide +kernel
theorem dX3_lowestPropped_2 : decode cX3_lowestPropped 2 = .ok (.iload_n 1, 1) := by decide +kernel
theorem dX3_lowestPropped_3 : decode cX3_lowestPropped 3 = .ok (.aload_n 0, 1) := by decide +kernel
theorem dX3_lowestPropped_4 : decode cX3_lowestPropped 4 = .ok (.getfield 31, 3) := by decide +kernel
theorem dX3_lowestPropped_7 : decode cX3_lowestPropped 7 = .ok (.if_icmp .ge 17, 3) := by decide +kernel
theorem dX3_lowestPropped_10 : decode cX3_lowestPropped 10 = .ok (.aload_n 0, 1) := by decide +kernel
theorem dX3_lowestPropped_11 : decode cX3_lowestPropped 11 = .ok (.iload_n 1, 1) := by decide +kernel
theorem dX3_lowestPropped_12 : decode cX3_lowestPropped 12 = .ok (.invokevirtual 45, 3) := by decide +kernel
theorem dX3_lowestPropped_15 : decode cX3_lowestPropped 15 = .ok (.ifCond .ne 9, 3) := by decide +kernel
theorem dX3_lowestPropped_18 : decode cX3_lowestPropped 18 = .ok (.iinc 1 1, 3) := by decide +kernel
theorem dX3_lowestPropped_21 : decode cX3_lowestPropped 21 = .ok (.goto (-19), 3) := by decide +kernel
theorem dX3_lowestPropped_24 : decode cX3_lowestPropped 24 = .ok (.iload_n 1, 1) := by decide +kernel
theorem dX3_lowestPropped_25 : decode cX3_lowestPropped 25 = .ok (.ireturn, 1) := by decide +kernel
set_option maxRecDepth 20000 in
theorem ggX3_lowestOf_X3_isPropped : GoodIn wsX3_lowestOf wsX3_isPropped := goodIn_r _ [5, 6, 7, 8, 9, 10, 11, 12, 13, 14] (by decide +kernel) (by decide +kernel)
set_option maxRecDepth 20000 in
theorem gX3_lowestOf_X3_isPropped : GoodIn wsX3_lowestOf (wsV RX3 45 RX3 yX3_isPropped wsX3_isPropped) := goodIn_app (goodIn_of _ (by decide +kernel)) ggX3_lowestOf_X3_isPropped
theorem dX3_lowestOf_0 : decode cX3_lowestOf 0 = .ok (.iload_n 1, 1) := by decide +kernel
theorem dX3_lowestOf_1 : decode cX3_lowestOf 1 = .ok (.istore_n 2, 1) := by decide +kernel
theorem dX3_lowestOf_2 : decode cX3_lowestOf 2 = .ok (.iload_n 2, 1) := by decide +kernel
theorem dX3_lowestOf_3 : decode cX3_lowestOf 3 = .ok (.ifCond .le 17, 3) := by decide +kernel
theorem dX3_lowestOf_6 : decode cX3_lowestOf 6 = .ok (.aload_n 0, 1) := by decide +kernel
theorem dX3_lowestOf_7 : decode cX3_lowestOf 7 = .ok (.iload_n 2, 1) := by decide +kernel
theorem dX3_lowestOf_8 : decode cX3_lowestOf 8 = .ok (.invokevirtual 45, 3) := by decide +kernel
theorem dX3_lowestOf_11 : decode cX3_lowestOf 11 = .ok (.ifCond .eq 9, 3) := by decide +kernel
theorem dX3_lowestOf_14 : decode cX3_lowestOf 14 = .ok (.iinc 2 (-1), 3) := by decide +kernel
theorem dX3_lowestOf_17 : decode cX3_lowestOf 17 = .ok (.goto (-15), 3) := by decide +kernel
theorem dX3_lowestOf_20 : decode cX3_lowestOf 20 = .ok (.iload_n 2, 1) := by decide +kernel
theorem dX3_lowestOf_21 : decode cX3_lowestOf 21 = .ok (.ireturn, 1) := by decide +kernel
set_option maxRecDepth 20000 in
theorem ggX3_highestOf_X3_isPropped : GoodIn wsX3_highestOf wsX3_isPropped := goodIn_r _ [6, 7, 8, 9, 10, 11, 12, 13, 14, 15] (by decide +kernel) (by decide +kernel)
set_option maxRecDepth 20000 in
theorem gX3_highestOf_X3_isPropped : GoodIn wsX3_highestOf (wsV RX3 45 RX3 yX3_isPropped wsX3_isPropped) := goodIn_app (goodIn_of _ (by decide +kernel)) ggX3_highestOf_X3_isPropped
theorem dX3_highestOf_0 : decode cX3_highestOf 0 = .ok (.iload_n 1, 1) := by decide +kernel
theorem dX3_highestOf_1 : decode cX3_highestOf 1 = .ok (.istore_n 2, 1) := by decide +kernel
theorem dX3_highestOf_2 : decode cX3_highestOf 2 = .ok (.iload_n 2, 1) := by decide +kernel
theorem dX3_highestOf_3 : decode cX3_highestOf 3 = .ok (.iconst 1, 1) := by decide +kernel
theorem dX3_highestOf_4 : decode cX3_highestOf 4 = .ok (.iadd, 1) := by decide +kernel
theorem dX3_highestOf_5 : decode cX3_highestOf 5 = .ok (.aload_n 0, 1) := by decide +kernel
theorem dX3_highestOf_6 : decode cX3_highestOf 6 = .ok (.getfield 31, 3) := by decide +kernel
theorem dX3_highestOf_9 : decode cX3_highestOf 9 = .ok (.if_icmp .ge 19, 3) := by decide +kernel
theorem dX3_highestOf_12 : decode cX3_highestOf 12 = .ok (.aload_n 0, 1) := by decide +kernel
theorem dX3_highestOf_13 : decode cX3_highestOf 13 = .ok (.iload_n 2, 1) := by decide +kernel
theorem dX3_highestOf_14 : decode cX3_highestOf 14 = .ok (.iconst 1, 1) := by decide +kernel
theorem dX3_highestOf_15 : decode cX3_highestOf 15 = .ok (.iadd, 1) := by decide +kernel
theorem dX3_highestOf_16 : decode cX3_highestOf 16 = .ok (.invokevirtual 45, 3) := by decide +kernel
theorem dX3_highestOf_19 : decode cX3_highestOf 19 = .ok (.ifCond .eq 9, 3) := by decide +kernel
theorem dX3_highestOf_22 : decode cX3_highestOf 22 = .ok (.iinc 2 1, 3) := by decide +kernel
theorem dX3_highestOf_25 : decode cX3_highestOf 25 = .ok (.goto (-23), 3) := by decide +kernel
theorem dX3_highestOf_28 : decode cX3_highestOf 28 = .ok (.iload_n 2, 1) := by decide +kernel
theorem dX3_highestOf_29 : decode cX3_highestOf 29 = .ok (.ireturn, 1) := by decide +kernel
set_option maxRecDepth 20000 in
theorem ggX3_isGrounded_X3_lowestOf : GoodIn wsX3_isGrounded wsX3_lowestOf := goodIn_r _ [5, 6, 7, 8, 4, 9, 10, 11, 12, 13, 14, 15, 16, 17, 18] (by decide +kernel) (by decide +kernel)
set_option maxRecDepth 20000 in
theorem gX3_isGrounded_X3_lowestOf : GoodIn wsX3_isGrounded (wsV RX3 49 RX3 yX3_lowestOf wsX3_lowestOf) := goodIn_app (goodIn_of _ (by decide +kernel)) ggX3_isGrounded_X3_lowestOf
set_option maxRecDepth 20000 in
theorem ggX3_isGrounded_X3_isPropped : GoodIn wsX3_isGrounded wsX3_isPropped := goodIn_r _ [9, 10, 11, 12, 13, 14, 15, 16, 17, 18] (by decide +kernel) (by decide +kernel)
set_option maxRecDepth 20000 in
theorem gX3_isGrounded_X3_isPropped : GoodIn wsX3_isGrounded (wsV RX3 45 RX3 yX3_isPropped wsX3_isPropped) := goodIn_app (goodIn_of _ (by decide +kernel)) ggX3_isGrounded_X3_isPropped
theorem dX3_isGrounded_0 : decode cX3_isGrounded 0 = .ok (.aload_n 0, 1) := by decide +kernel
theorem dX3_isGrounded_1 : decode cX3_isGrounded 1 = .ok (.iload_n 1, 1) := by decide +kernel
theorem dX3_isGrounded_2 : decode cX3_isGrounded 2 = .ok (.invokevirtual 49, 3) := by decide +kernel
theorem dX3_isGrounded_5 : decode cX3_isGrounded 5 = .ok (.ifCond .ne 15, 3) := by decide +kernel
theorem dX3_isGrounded_8 : decode cX3_isGrounded 8 = .ok (.aload_n 0, 1) := by decide +kernel
theorem dX3_isGrounded_9 : decode cX3_isGrounded 9 = .ok (.iconst 0, 1) := by decide +kernel
theorem dX3_isGrounded_10 : decode cX3_isGrounded 10 = .ok (.invokevirtual 45, 3) := by decide +kernel
theorem dX3_isGrounded_13 : decode cX3_isGrounded 13 = .ok (.ifCond .eq 7, 3) := by decide +kernel
theorem dX3_isGrounded_16 : decode cX3_isGrounded 16 = .ok (.iconst 1, 1) := by decide +kernel
theorem dX3_isGrounded_17 : decode cX3_isGrounded 17 = .ok (.goto 4, 3) := by decide +kernel
theorem dX3_isGrounded_20 : decode cX3_isGrounded 20 = .ok (.iconst 0, 1) := by decide +kernel
theorem dX3_isGrounded_21 : decode cX3_isGrounded 21 = .ok (.ireturn, 1) := by decide +kernel
set_option maxRecDepth 20000 in
theorem ggX3_forceUnder_X3_isPropped : GoodIn wsX3_forceUnder wsX3_isPropped := goodIn_r _ [7, 8, 14, 15, 16, 17, 18, 19, 20, 21] (by decide +kernel) (by decide +kernel)
set_option maxRecDepth 20000 in
theorem gX3_forceUnder_X3_isPropped : GoodIn wsX3_forceUnder (wsV RX3 45 RX3 yX3_isPropped wsX3_isPropped) := goodIn_app (goodIn_of _ (by decide +kernel)) ggX3_forceUnder_X3_isPropped
set_option maxRecDepth 20000 in
theorem ggX3_forceUnder_X3_highestOf : GoodIn wsX3_forceUnder wsX3_highestOf := goodIn_r _ [12, 13, 3, 4, 5, 6, 7, 8, 14, 15, 16, 17, 18, 19, 20, 21] (by decide +kernel) (by decide +kernel)
set_option maxRecDepth 20000 in
theorem gX3_forceUnder_X3_highestOf : GoodIn wsX3_forceUnder (wsV RX3 52 RX3 yX3_highestOf wsX3_highestOf) := goodIn_app (goodIn_of _ (by decide +kernel)) ggX3_forceUnder_X3_highestOf
theorem dX3_forceUnder_0 : decode cX3_forceUnder 0 = .ok (.aload_n 0, 1) := by decide +kernel
theorem dX3_forceUnder_1 : decode cX3_forceUnder 1 = .ok (.iload_n 1, 1) := by decide +kernel
theorem dX3_forceUnder_2 : decode cX3_forceUnder 2 = .ok (.invokevirtual 45, 3) := by decide +kernel
theorem dX3_forceUnder_5 : decode cX3_forceUnder 5 = .ok (.ifCond .ne 5, 3) := by decide +kernel
theorem dX3_forceUnder_8 : decode cX3_forceUnder 8 = .ok (.iconst 0, 1) := by decide +kernel
theorem dX3_forceUnder_9 : decode cX3_forceUnder 9 = .ok (.ireturn, 1) := by decide +kernel
theorem dX3_forceUnder_10 : decode cX3_forceUnder 10 = .ok (.iconst 0, 1) := by decide +kernel
theorem dX3_forceUnder_11 : decode cX3_forceUnder 11 = .ok (.istore_n 2, 1) := by decide +kernel
theorem dX3_forceUnder_12 : decode cX3_forceUnder 12 = .ok (.aload_n 0, 1) := by decide +kernel
theorem dX3_forceUnder_13 : decode cX3_forceUnder 13 = .ok (.iload_n 1, 1) := by decide +kernel
theorem dX3_forceUnder_14 : decode cX3_forceUnder 14 = .ok (.invokevirtual 52, 3) := by decide +kernel
theorem dX3_forceUnder_17 : decode cX3_forceUnder 17 = .ok (.istore_n 3, 1) := by decide +kernel
theorem dX3_forceUnder_18 : decode cX3_forceUnder 18 = .ok (.iload_n 1, 1) := by decide +kernel
theorem dX3_forceUnder_19 : decode cX3_forceUnder 19 = .ok (.istore 4, 2) := by decide +kernel
theorem dX3_forceUnder_21 : decode cX3_forceUnder 21 = .ok (.iload 4, 2) := by decide +kernel
theorem dX3_forceUnder_23 : decode cX3_forceUnder 23 = .ok (.iload_n 3, 1) := by decide +kernel
theorem dX3_forceUnder_24 : decode cX3_forceUnder 24 = .ok (.if_icmp .gt 26, 3) := by decide +kernel
theorem dX3_forceUnder_27 : decode cX3_forceUnder 27 = .ok (.iload_n 2, 1) := by decide +kernel
theorem dX3_forceUnder_28 : decode cX3_forceUnder 28 = .ok (.aload_n 0, 1) := by decide +kernel
theorem dX3_forceUnder_29 : decode cX3_forceUnder 29 = .ok (.getfield 9, 3) := by decide +kernel
theorem dX3_forceUnder_32 : decode cX3_forceUnder 32 = .ok (.iconst 0, 1) := by decide +kernel
theorem dX3_forceUnder_33 : decode cX3_forceUnder 33 = .ok (.iaload, 1) := by decide +kernel
theorem dX3_forceUnder_34 : decode cX3_forceUnder 34 = .ok (.aload_n 0, 1) := by decide +kernel
theorem dX3_forceUnder_35 : decode cX3_forceUnder 35 = .ok (.getfield 21, 3) := by decide +kernel
theorem dX3_forceUnder_38 : decode cX3_forceUnder 38 = .ok (.iload 4, 2) := by decide +kernel
theorem dX3_forceUnder_40 : decode cX3_forceUnder 40 = .ok (.iaload, 1) := by decide +kernel
theorem dX3_forceUnder_41 : decode cX3_forceUnder 41 = .ok (.isub, 1) := by decide +kernel
theorem dX3_forceUnder_42 : decode cX3_forceUnder 42 = .ok (.iadd, 1) := by decide +kernel
theorem dX3_forceUnder_43 : decode cX3_forceUnder 43 = .ok (.istore_n 2, 1) := by decide +kernel
theorem dX3_forceUnder_44 : decode cX3_forceUnder 44 = .ok (.iinc 4 1, 3) := by decide +kernel
theorem dX3_forceUnder_47 : decode cX3_forceUnder 47 = .ok (.goto (-26), 3) := by decide +kernel
theorem dX3_forceUnder_50 : decode cX3_forceUnder 50 = .ok (.iload_n 2, 1) := by decide +kernel
theorem dX3_forceUnder_51 : decode cX3_forceUnder 51 = .ok (.ireturn, 1) := by decide +kernel
set_option maxRecDepth 20000 in
theorem ggX3_weakSet_X3_strengthOf : GoodIn wsX3_weakSet wsX3_strengthOf := goodIn_r _ [7, 8, 9, 10, 11, 12, 6, 13, 14, 15, 16, 17, 18, 19, 20, 21, 22, 23, 24, 25, 26, 27, 28] (by decide +kernel) (by decide +kernel)
set_option maxRecDepth 20000 in
theorem gX3_weakSet_X3_strengthOf : GoodIn wsX3_weakSet (wsV RX3 55 RX3 yX3_strengthOf wsX3_strengthOf) := goodIn_app (goodIn_of _ (by decide +kernel)) ggX3_weakSet_X3_strengthOf
theorem dX3_weakSet_0 : decode cX3_weakSet 0 = .ok (.iconst 0, 1) := by decide +kernel
theorem dX3_weakSet_1 : decode cX3_weakSet 1 = .ok (.istore_n 1, 1) := by decide +kernel
theorem dX3_weakSet_2 : decode cX3_weakSet 2 = .ok (.iconst 0, 1) := by decide +kernel
theorem dX3_weakSet_3 : decode cX3_weakSet 3 = .ok (.istore_n 2, 1) := by decide +kernel
theorem dX3_weakSet_4 : decode cX3_weakSet 4 = .ok (.iload_n 2, 1) := by decide +kernel
theorem dX3_weakSet_5 : decode cX3_weakSet 5 = .ok (.aload_n 0, 1) := by decide +kernel
theorem dX3_weakSet_6 : decode cX3_weakSet 6 = .ok (.getfield 31, 3) := by decide +kernel
theorem dX3_weakSet_9 : decode cX3_weakSet 9 = .ok (.if_icmp .ge 29, 3) := by decide +kernel
theorem dX3_weakSet_12 : decode cX3_weakSet 12 = .ok (.aload_n 0, 1) := by decide +kernel
theorem dX3_weakSet_13 : decode cX3_weakSet 13 = .ok (.getfield 21, 3) := by decide +kernel
theorem dX3_weakSet_16 : decode cX3_weakSet 16 = .ok (.iload_n 2, 1) := by decide +kernel
theorem dX3_weakSet_17 : decode cX3_weakSet 17 = .ok (.iaload, 1) := by decide +kernel
theorem dX3_weakSet_18 : decode cX3_weakSet 18 = .ok (.aload_n 0, 1) := by decide +kernel
theorem dX3_weakSet_19 : decode cX3_weakSet 19 = .ok (.iload_n 2, 1) := by decide +kernel
theorem dX3_weakSet_20 : decode cX3_weakSet 20 = .ok (.invokevirtual 55, 3) := by decide +kernel
theorem dX3_weakSet_23 : decode cX3_weakSet 23 = .ok (.if_icmp .le 9, 3) := by decide +kernel
theorem dX3_weakSet_26 : decode cX3_weakSet 26 = .ok (.iload_n 1, 1) := by decide +kernel
theorem dX3_weakSet_27 : decode cX3_weakSet 27 = .ok (.iconst 1, 1) := by decide +kernel
theorem dX3_weakSet_28 : decode cX3_weakSet 28 = .ok (.iload_n 2, 1) := by decide +kernel
theorem dX3_weakSet_29 : decode cX3_weakSet 29 = .ok (.ishl, 1) := by decide +kernel
theorem dX3_weakSet_30 : decode cX3_weakSet 30 = .ok (.ior, 1) := by decide +kernel
theorem dX3_weakSet_31 : decode cX3_weakSet 31 = .ok (.istore_n 1, 1) := by decide +kernel
theorem dX3_weakSet_32 : decode cX3_weakSet 32 = .ok (.iinc 2 1, 3) := by decide +kernel
theorem dX3_weakSet_35 : decode cX3_weakSet 35 = .ok (.goto (-31), 3) := by decide +kernel
theorem dX3_weakSet_38 : decode cX3_weakSet 38 = .ok (.iload_n 1, 1) := by decide +kernel
theorem dX3_weakSet_39 : decode cX3_weakSet 39 = .ok (.ireturn, 1) := by decide +kernel
set_option maxRecDepth 20000 in
theorem ggX3_isSafe_X3_weakSet : GoodIn wsX3_isSafe wsX3_weakSet := goodIn_r _ [5, 6, 7, 8, 9, 10, 4, 11, 12, 13, 14, 15, 16, 17, 18, 19, 20, 21, 22, 23, 24, 25, 26, 27, 28, 29, 30, 31, 32] (by decide +kernel) (by decide +kernel)
set_option maxRecDepth 20000 in
theorem gX3_isSafe_X3_weakSet : GoodIn wsX3_isSafe (wsV RX3 58 RX3 yX3_weakSet wsX3_weakSet) := goodIn_app (goodIn_of _ (by decide +kernel)) ggX3_isSafe_X3_weakSet
theorem dX3_isSafe_0 : decode cX3_isSafe 0 = .ok (.aload_n 0, 1) := by decide +kernel
theorem dX3_isSafe_1 : decode cX3_isSafe 1 = .ok (.invokevirtual 58, 3) := by decide +kernel
theorem dX3_isSafe_4 : decode cX3_isSafe 4 = .ok (.ifCond .ne 7, 3) := by decide +kernel
theorem dX3_isSafe_7 : decode cX3_isSafe 7 = .ok (.iconst 1, 1) := by decide +kernel
theorem dX3_isSafe_8 : decode cX3_isSafe 8 = .ok (.goto 4, 3) := by decide +kernel
theorem dX3_isSafe_11 : decode cX3_isSafe 11 = .ok (.iconst 0, 1) := by decide +kernel
theorem dX3_isSafe_12 : decode cX3_isSafe 12 = .ok (.ireturn, 1) := by decide +kernel
set_option maxRecDepth 20000 in
theorem ggX3_greatestExcess_X3_strengthOf : GoodIn wsX3_greatestExcess wsX3_strengthOf := goodIn_r _ [11, 12, 13, 14, 15, 16, 10, 17, 18, 19, 20, 21, 22, 23, 24, 25, 26, 27, 28, 29, 30, 31, 32] (by decide +kernel) (by decide +kernel)
set_option maxRecDepth 20000 in
theorem gX3_greatestExcess_X3_strengthOf : GoodIn wsX3_greatestExcess (wsV RX3 55 RX3 yX3_strengthOf wsX3_strengthOf) := goodIn_app (goodIn_of _ (by decide +kernel)) ggX3_greatestExcess_X3_strengthOf
theorem dX3_greatestExcess_0 : decode cX3_greatestExcess 0 = .ok (.aload_n 0, 1) := by decide +kernel
theorem dX3_greatestExcess_1 : decode cX3_greatestExcess 1 = .ok (.getfield 21, 3) := by decide +kernel
theorem dX3_greatestExcess_4 : decode cX3_greatestExcess 4 = .ok (.iconst 0, 1) := by decide +kernel
theorem dX3_greatestExcess_5 : decode cX3_greatestExcess 5 = .ok (.iaload, 1) := by decide +kernel
theorem dX3_greatestExcess_6 : decode cX3_greatestExcess 6 = .ok (.aload_n 0, 1) := by decide +kernel
theorem dX3_greatestExcess_7 : decode cX3_greatestExcess 7 = .ok (.iconst 0, 1) := by decide +kernel
theorem dX3_greatestExcess_8 : decode cX3_greatestExcess 8 = .ok (.invokevirtual 55, 3) := by decide +kernel
theorem dX3_greatestExcess_11 : decode cX3_greatestExcess 11 = .ok (.isub, 1) := by decide +kernel
theorem dX3_greatestExcess_12 : decode cX3_greatestExcess 12 = .ok (.istore_n 1, 1) := by decide +kernel
theorem dX3_greatestExcess_13 : decode cX3_greatestExcess 13 = .ok (.iconst 1, 1) := by decide +kernel
theorem dX3_greatestExcess_14 : decode cX3_greatestExcess 14 = .ok (.istore_n 2, 1) := by decide +kernel
theorem dX3_greatestExcess_15 : decode cX3_greatestExcess 15 = .ok (.iload_n 2, 1) := by decide +kernel
theorem dX3_greatestExcess_16 : decode cX3_greatestExcess 16 = .ok (.aload_n 0, 1) := by decide +kernel
theorem dX3_greatestExcess_17 : decode cX3_greatestExcess 17 = .ok (.getfield 31, 3) := by decide +kernel
theorem dX3_greatestExcess_20 : decode cX3_greatestExcess 20 = .ok (.if_icmp .ge 26, 3) := by decide +kernel
theorem dX3_greatestExcess_23 : decode cX3_greatestExcess 23 = .ok (.iload_n 1, 1) := by decide +kernel
theorem dX3_greatestExcess_24 : decode cX3_greatestExcess 24 = .ok (.aload_n 0, 1) := by decide +kernel
theorem dX3_greatestExcess_25 : decode cX3_greatestExcess 25 = .ok (.getfield 21, 3) := by decide +kernel
theorem dX3_greatestExcess_28 : decode cX3_greatestExcess 28 = .ok (.iload_n 2, 1) := by decide +kernel
theorem dX3_greatestExcess_29 : decode cX3_greatestExcess 29 = .ok (.iaload, 1) := by decide +kernel
theorem dX3_greatestExcess_30 : decode cX3_greatestExcess 30 = .ok (.aload_n 0, 1) := by decide +kernel
theorem dX3_greatestExcess_31 : decode cX3_greatestExcess 31 = .ok (.iload_n 2, 1) := by decide +kernel
theorem dX3_greatestExcess_32 : decode cX3_greatestExcess 32 = .ok (.invokevirtual 55, 3) := by decide +kernel
theorem dX3_greatestExcess_35 : decode cX3_greatestExcess 35 = .ok (.isub, 1) := by decide +kernel
theorem dX3_greatestExcess_36 : decode cX3_greatestExcess 36 = .ok (.invokestatic 62, 3) := by decide +kernel
theorem dX3_greatestExcess_39 : decode cX3_greatestExcess 39 = .ok (.istore_n 1, 1) := by decide +kernel
theorem dX3_greatestExcess_40 : decode cX3_greatestExcess 40 = .ok (.iinc 2 1, 3) := by decide +kernel
theorem dX3_greatestExcess_43 : decode cX3_greatestExcess 43 = .ok (.goto (-28), 3) := by decide +kernel
theorem dX3_greatestExcess_46 : decode cX3_greatestExcess 46 = .ok (.iload_n 1, 1) := by decide +kernel
theorem dX3_greatestExcess_47 : decode cX3_greatestExcess 47 = .ok (.ireturn, 1) := by decide +kernel
set_option maxRecDepth 20000 in
theorem ggX3_addFloor_X3_putProps : GoodIn wsX3_addFloor wsX3_putProps := goodIn_r _ [11, 12, 58, 59, 60, 61, 62, 63, 64, 65] (by decide +kernel) (by decide +kernel)
set_option maxRecDepth 20000 in
theorem gX3_addFloor_X3_putProps : GoodIn wsX3_addFloor (wsV RX3 67 RX3 yX3_putProps wsX3_putProps) := goodIn_app (goodIn_of _ (by decide +kernel)) ggX3_addFloor_X3_putProps
set_option maxRecDepth 20000 in
theorem ggX3_addFloor_X3_shareAmong : GoodIn wsX3_addFloor wsX3_shareAmong := goodIn_r _ [16, 6, 17, 18, 19, 20, 21, 22, 23, 24, 5, 25, 26, 27, 10, 28, 29, 30, 31, 32, 12, 33, 34, 35, 36, 1, 37, 38, 39, 40, 3, 2, 41, 42, 43, 44, 4, 45, 46, 47, 48, 49, 50, 51, 52, 53, 54, 55, 56, 57, 58, 59, 60, 61, 62, 63, 64, 65] (by decide +kernel) (by decide +kernel)
set_option maxRecDepth 20000 in
theorem gX3_addFloor_X3_shareAmong : GoodIn wsX3_addFloor (wsV RX3 71 RX3 yX3_shareAmong wsX3_shareAmong) := goodIn_app (goodIn_of _ (by decide +kernel)) ggX3_addFloor_X3_shareAmong
theorem dX3_addFloor_0 : decode cX3_addFloor 0 = .ok (.aload_n 0, 1) := by decide +kernel
theorem dX3_addFloor_1 : decode cX3_addFloor 1 = .ok (.getfield 31, 3) := by decide +kernel
theorem dX3_addFloor_4 : decode cX3_addFloor 4 = .ok (.bipush 8, 2) := by decide +kernel
theorem dX3_addFloor_6 : decode cX3_addFloor 6 = .ok (.if_icmp .lt 4, 3) := by decide +kernel
theorem dX3_addFloor_9 : decode cX3_addFloor 9 = .ok (.return_, 1) := by decide +kernel
theorem dX3_addFloor_10 : decode cX3_addFloor 10 = .ok (.aload_n 0, 1) := by decide +kernel
theorem dX3_addFloor_11 : decode cX3_addFloor 11 = .ok (.getfield 31, 3) := by decide +kernel
theorem dX3_addFloor_14 : decode cX3_addFloor 14 = .ok (.istore_n 1, 1) := by decide +kernel
theorem dX3_addFloor_15 : decode cX3_addFloor 15 = .ok (.aload_n 0, 1) := by decide +kernel
theorem dX3_addFloor_16 : decode cX3_addFloor 16 = .ok (.getfield 15, 3) := by decide +kernel
theorem dX3_addFloor_19 : decode cX3_addFloor 19 = .ok (.iload_n 1, 1) := by decide +kernel
theorem dX3_addFloor_20 : decode cX3_addFloor 20 = .ok (.aload_n 0, 1) := by decide +kernel
theorem dX3_addFloor_21 : decode cX3_addFloor 21 = .ok (.getfield 27, 3) := by decide +kernel
theorem dX3_addFloor_24 : decode cX3_addFloor 24 = .ok (.iastore, 1) := by decide +kernel
theorem dX3_addFloor_25 : decode cX3_addFloor 25 = .ok (.aload_n 0, 1) := by decide +kernel
theorem dX3_addFloor_26 : decode cX3_addFloor 26 = .ok (.getfield 18, 3) := by decide +kernel
theorem dX3_addFloor_29 : decode cX3_addFloor 29 = .ok (.iload_n 1, 1) := by decide +kernel
theorem dX3_addFloor_30 : decode cX3_addFloor 30 = .ok (.iconst 0, 1) := by decide +kernel
theorem dX3_addFloor_31 : decode cX3_addFloor 31 = .ok (.iastore, 1) := by decide +kernel
theorem dX3_addFloor_32 : decode cX3_addFloor 32 = .ok (.aload_n 0, 1) := by decide +kernel
theorem dX3_addFloor_33 : decode cX3_addFloor 33 = .ok (.getfield 21, 3) := by decide +kernel
theorem dX3_addFloor_36 : decode cX3_addFloor 36 = .ok (.iload_n 1, 1) := by decide +kernel
theorem dX3_addFloor_37 : decode cX3_addFloor 37 = .ok (.iconst 0, 1) := by decide +kernel
theorem dX3_addFloor_38 : decode cX3_addFloor 38 = .ok (.iastore, 1) := by decide +kernel
theorem dX3_addFloor_39 : decode cX3_addFloor 39 = .ok (.aload_n 0, 1) := by decide +kernel
theorem dX3_addFloor_40 : decode cX3_addFloor 40 = .ok (.dup, 1) := by decide +kernel
theorem dX3_addFloor_41 : decode cX3_addFloor 41 = .ok (.getfield 31, 3) := by decide +kernel
theorem dX3_addFloor_44 : decode cX3_addFloor 44 = .ok (.iconst 1, 1) := by decide +kernel
theorem dX3_addFloor_45 : decode cX3_addFloor 45 = .ok (.iadd, 1) := by decide +kernel
theorem dX3_addFloor_46 : decode cX3_addFloor 46 = .ok (.putfield 31, 3) := by decide +kernel
theorem dX3_addFloor_49 : decode cX3_addFloor 49 = .ok (.aload_n 0, 1) := by decide +kernel
theorem dX3_addFloor_50 : decode cX3_addFloor 50 = .ok (.iload_n 1, 1) := by decide +kernel
theorem dX3_addFloor_51 : decode cX3_addFloor 51 = .ok (.invokevirtual 67, 3) := by decide +kernel
theorem dX3_addFloor_54 : decode cX3_addFloor 54 = .ok (.aload_n 0, 1) := by decide +kernel
theorem dX3_addFloor_55 : decode cX3_addFloor 55 = .ok (.iload_n 1, 1) := by decide +kernel
theorem dX3_addFloor_56 : decode cX3_addFloor 56 = .ok (.aload_n 0, 1) := by decide +kernel
theorem dX3_addFloor_57 : decode cX3_addFloor 57 = .ok (.getfield 9, 3) := by decide +kernel
theorem dX3_addFloor_60 : decode cX3_addFloor 60 = .ok (.iconst 0, 1) := by decide +kernel
theorem dX3_addFloor_61 : decode cX3_addFloor 61 = .ok (.iaload, 1) := by decide +kernel
theorem dX3_addFloor_62 : decode cX3_addFloor 62 = .ok (.invokevirtual 71, 3) := by decide +kernel
theorem dX3_addFloor_65 : decode cX3_addFloor 65 = .ok (.return_, 1) := by decide +kernel
theorem dX3_putProps_0 : decode cX3_putProps 0 = .ok (.aload_n 0, 1) := by decide +kernel
theorem dX3_putProps_1 : decode cX3_putProps 1 = .ok (.dup, 1) := by decide +kernel
theorem dX3_putProps_2 : decode cX3_putProps 2 = .ok (.getfield 34, 3) := by decide +kernel
theorem dX3_putProps_5 : decode cX3_putProps 5 = .ok (.iconst 1, 1) := by decide +kernel
theorem dX3_putProps_6 : decode cX3_putProps 6 = .ok (.iload_n 1, 1) := by decide +kernel
theorem dX3_putProps_7 : decode cX3_putProps 7 = .ok (.ishl, 1) := by decide +kernel
theorem dX3_putProps_8 : decode cX3_putProps 8 = .ok (.ior, 1) := by decide +kernel
theorem dX3_putProps_9 : decode cX3_putProps 9 = .ok (.putfield 34, 3) := by decide +kernel
theorem dX3_putProps_12 : decode cX3_putProps 12 = .ok (.return_, 1) := by decide +kernel
set_option maxRecDepth 20000 in
theorem ggX3_takeProps_X3_has : GoodIn wsX3_takeProps wsX3_has := goodIn_r _ [6, 7, 62, 63, 64, 65, 66, 67, 68, 69] (by decide +kernel) (by decide +kernel)
set_option maxRecDepth 20000 in
theorem gX3_takeProps_X3_has : GoodIn wsX3_takeProps (wsV RX3 75 RX3 yX3_has wsX3_has) := goodIn_app (goodIn_of _ (by decide +kernel)) ggX3_takeProps_X3_has
set_option maxRecDepth 20000 in
theorem ggX3_takeProps_X3_forceUnder : GoodIn wsX3_takeProps wsX3_forceUnder := goodIn_r _ [11, 12, 13, 14, 15, 16, 5, 17, 1, 18, 19, 20, 21, 7, 62, 63, 64, 65, 66, 67, 68, 69] (by decide +kernel) (by decide +kernel)
set_option maxRecDepth 20000 in
theorem gX3_takeProps_X3_forceUnder : GoodIn wsX3_takeProps (wsV RX3 78 RX3 yX3_forceUnder wsX3_forceUnder) := goodIn_app (goodIn_of _ (by decide +kernel)) ggX3_takeProps_X3_forceUnder
set_option maxRecDepth 20000 in
theorem ggX3_takeProps_X3_shareAmong : GoodIn wsX3_takeProps wsX3_shareAmong := goodIn_r _ [25, 12, 26, 27, 28, 29, 30, 31, 32, 33, 13, 34, 35, 36, 5, 37, 14, 15, 16, 17, 1, 18, 19, 20, 21, 7, 38, 39, 40, 41, 42, 43, 44, 45, 46, 47, 48, 49, 50, 51, 52, 53, 54, 55, 56, 57, 58, 59, 60, 61, 62, 63, 64, 65, 66, 67, 68, 69] (by decide +kernel) (by decide +kernel)
set_option maxRecDepth 20000 in
theorem gX3_takeProps_X3_shareAmong : GoodIn wsX3_takeProps (wsV RX3 71 RX3 yX3_shareAmong wsX3_shareAmong) := goodIn_app (goodIn_of _ (by decide +kernel)) ggX3_takeProps_X3_shareAmong
theorem dX3_takeProps_0 : decode cX3_takeProps 0 = .ok (.aload_n 0, 1) := by decide +kernel
theorem dX3_takeProps_1 : decode cX3_takeProps 1 = .ok (.iload_n 1, 1) := by decide +kernel
theorem dX3_takeProps_2 : decode cX3_takeProps 2 = .ok (.invokevirtual 75, 3) := by decide +kernel
theorem dX3_takeProps_5 : decode cX3_takeProps 5 = .ok (.ifCond .ne 4, 3) := by decide +kernel
theorem dX3_takeProps_8 : decode cX3_takeProps 8 = .ok (.return_, 1) := by decide +kernel
theorem dX3_takeProps_9 : decode cX3_takeProps 9 = .ok (.aload_n 0, 1) := by decide +kernel
theorem dX3_takeProps_10 : decode cX3_takeProps 10 = .ok (.iload_n 1, 1) := by decide +kernel
theorem dX3_takeProps_11 : decode cX3_takeProps 11 = .ok (.invokevirtual 78, 3) := by decide +kernel
theorem dX3_takeProps_14 : decode cX3_takeProps 14 = .ok (.istore_n 2, 1) := by decide +kernel
theorem dX3_takeProps_15 : decode cX3_takeProps 15 = .ok (.aload_n 0, 1) := by decide +kernel
theorem dX3_takeProps_16 : decode cX3_takeProps 16 = .ok (.dup, 1) := by decide +kernel
theorem dX3_takeProps_17 : decode cX3_takeProps 17 = .ok (.getfield 34, 3) := by decide +kernel
theorem dX3_takeProps_20 : decode cX3_takeProps 20 = .ok (.iconst 1, 1) := by decide +kernel
theorem dX3_takeProps_21 : decode cX3_takeProps 21 = .ok (.iload_n 1, 1) := by decide +kernel
theorem dX3_takeProps_22 : decode cX3_takeProps 22 = .ok (.ishl, 1) := by decide +kernel
theorem dX3_takeProps_23 : decode cX3_takeProps 23 = .ok (.iconst (-1), 1) := by decide +kernel
theorem dX3_takeProps_24 : decode cX3_takeProps 24 = .ok (.ixor, 1) := by decide +kernel
theorem dX3_takeProps_25 : decode cX3_takeProps 25 = .ok (.iand, 1) := by decide +kernel
theorem dX3_takeProps_26 : decode cX3_takeProps 26 = .ok (.putfield 34, 3) := by decide +kernel
theorem dX3_takeProps_29 : decode cX3_takeProps 29 = .ok (.aload_n 0, 1) := by decide +kernel
theorem dX3_takeProps_30 : decode cX3_takeProps 30 = .ok (.iload_n 1, 1) := by decide +kernel
theorem dX3_takeProps_31 : decode cX3_takeProps 31 = .ok (.iload_n 2, 1) := by decide +kernel
theorem dX3_takeProps_32 : decode cX3_takeProps 32 = .ok (.invokevirtual 71, 3) := by decide +kernel
theorem dX3_takeProps_35 : decode cX3_takeProps 35 = .ok (.iload_n 1, 1) := by decide +kernel
theorem dX3_takeProps_36 : decode cX3_takeProps 36 = .ok (.ifCond .le 12, 3) := by decide +kernel
theorem dX3_takeProps_39 : decode cX3_takeProps 39 = .ok (.aload_n 0, 1) := by decide +kernel
theorem dX3_takeProps_40 : decode cX3_takeProps 40 = .ok (.iload_n 1, 1) := by decide +kernel
theorem dX3_takeProps_41 : decode cX3_takeProps 41 = .ok (.iconst 1, 1) := by decide +kernel
theorem dX3_takeProps_42 : decode cX3_takeProps 42 = .ok (.isub, 1) := by decide +kernel
theorem dX3_takeProps_43 : decode cX3_takeProps 43 = .ok (.iload_n 2, 1) := by decide +kernel
theorem dX3_takeProps_44 : decode cX3_takeProps 44 = .ok (.ineg, 1) := by decide +kernel
theorem dX3_takeProps_45 : decode cX3_takeProps 45 = .ok (.invokevirtual 71, 3) := by decide +kernel
theorem dX3_takeProps_48 : decode cX3_takeProps 48 = .ok (.return_, 1) := by decide +kernel
set_option maxRecDepth 20000 in
theorem ggX3_shareAmong_X3_lowestOf : GoodIn wsX3_shareAmong wsX3_lowestOf := goodIn_r _ [15, 16, 17, 18, 14, 19, 20, 50, 51, 52, 53, 54, 55, 56, 57] (by decide +kernel) (by decide +kernel)
set_option maxRecDepth 20000 in
theorem gX3_shareAmong_X3_lowestOf : GoodIn wsX3_shareAmong (wsV RX3 49 RX3 yX3_lowestOf wsX3_lowestOf) := goodIn_app (goodIn_of _ (by decide +kernel)) ggX3_shareAmong_X3_lowestOf
set_option maxRecDepth 20000 in
theorem ggX3_shareAmong_X3_isPropped : GoodIn wsX3_shareAmong wsX3_isPropped := goodIn_r _ [19, 20, 50, 51, 52, 53, 54, 55, 56, 57] (by decide +kernel) (by decide +kernel)
set_option maxRecDepth 20000 in
theorem gX3_shareAmong_X3_isPropped : GoodIn wsX3_shareAmong (wsV RX3 45 RX3 yX3_isPropped wsX3_isPropped) := goodIn_app (goodIn_of _ (by decide +kernel)) ggX3_shareAmong_X3_isPropped
set_option maxRecDepth 20000 in
theorem ggX3_shareAmong_X3_highestOf : GoodIn wsX3_shareAmong wsX3_highestOf := goodIn_r _ [24, 25, 16, 17, 18, 14, 19, 20, 50, 51, 52, 53, 54, 55, 56, 57] (by decide +kernel) (by decide +kernel)
set_option maxRecDepth 20000 in
theorem gX3_shareAmong_X3_highestOf : GoodIn wsX3_shareAmong (wsV RX3 52 RX3 yX3_highestOf wsX3_highestOf) := goodIn_app (goodIn_of _ (by decide +kernel)) ggX3_shareAmong_X3_highestOf
set_option maxRecDepth 20000 in
theorem ggX3_shareAmong_X3_ageOf : GoodIn wsX3_shareAmong wsX3_ageOf := goodIn_r _ [29, 30, 31, 50, 51, 52, 53, 54, 55, 56, 57] (by decide +kernel) (by decide +kernel)
set_option maxRecDepth 20000 in
theorem gX3_shareAmong_X3_ageOf : GoodIn wsX3_shareAmong (wsV RX3 37 RX3 yX3_ageOf wsX3_ageOf) := goodIn_app (goodIn_of _ (by decide +kernel)) ggX3_shareAmong_X3_ageOf
set_option maxRecDepth 20000 in
theorem ggX3_shareAmong_X3_strengthOf : GoodIn wsX3_shareAmong wsX3_strengthOf := goodIn_r _ [35, 36, 1, 26, 27, 28, 14, 29, 30, 31, 37, 38, 39, 40, 41, 50, 51, 52, 53, 54, 55, 56, 57] (by decide +kernel) (by decide +kernel)
set_option maxRecDepth 20000 in
theorem gX3_shareAmong_X3_strengthOf : GoodIn wsX3_shareAmong (wsV RX3 55 RX3 yX3_strengthOf wsX3_strengthOf) := goodIn_app (goodIn_of _ (by decide +kernel)) ggX3_shareAmong_X3_strengthOf
set_option maxRecDepth 20000 in
theorem ggX3_shareAmong_J7_fill_53178 : GoodIn wsX3_shareAmong wsJ7_fill_53178 := goodIn_r _ [45] (by decide +kernel) (by decide +kernel)
set_option maxRecDepth 20000 in
theorem gX3_shareAmong_J7_fill_53178 : GoodIn wsX3_shareAmong (va_wsS RX3 84 yJ7_fill_53178 wsJ7_fill_53178) := goodIn_app (goodIn_of _ (by decide +kernel)) ggX3_shareAmong_J7_fill_53178
set_option maxRecDepth 20000 in
theorem ggX3_shareAmong_X3_spreadByOnes : GoodIn wsX3_shareAmong wsX3_spreadByOnes := goodIn_r _ [49, 2, 10, 50, 51, 52, 53, 54, 55, 56, 57] (by decide +kernel) (by decide +kernel)
set_option maxRecDepth 20000 in
theorem gX3_shareAmong_X3_spreadByOnes : GoodIn wsX3_shareAmong (wsV RX3 90 RX3 yX3_spreadByOnes wsX3_spreadByOnes) := goodIn_app (goodIn_of _ (by decide +kernel)) ggX3_shareAmong_X3_spreadByOnes
theorem dX3_shareAmong_0 : decode cX3_shareAmong 0 = .ok (.aload_n 0, 1) := by decide +kernel
theorem dX3_shareAmong_1 : decode cX3_shareAmong 1 = .ok (.iload_n 1, 1) := by decide +kernel
theorem dX3_shareAmong_2 : decode cX3_shareAmong 2 = .ok (.invokevirtual 49, 3) := by decide +kernel
theorem dX3_shareAmong_5 : decode cX3_shareAmong 5 = .ok (.istore_n 3, 1) := by decide +kernel
theorem dX3_shareAmong_6 : decode cX3_shareAmong 6 = .ok (.iload_n 3, 1) := by decide +kernel
theorem dX3_shareAmong_7 : decode cX3_shareAmong 7 = .ok (.ifCond .ne 12, 3) := by decide +kernel
theorem dX3_shareAmong_10 : decode cX3_shareAmong 10 = .ok (.aload_n 0, 1) := by decide +kernel
theorem dX3_shareAmong_11 : decode cX3_shareAmong 11 = .ok (.iconst 0, 1) := by decide +kernel
theorem dX3_shareAmong_12 : decode cX3_shareAmong 12 = .ok (.invokevirtual 45, 3) := by decide +kernel
theorem dX3_shareAmong_15 : decode cX3_shareAmong 15 = .ok (.ifCond .eq 4, 3) := by decide +kernel
theorem dX3_shareAmong_18 : decode cX3_shareAmong 18 = .ok (.return_, 1) := by decide +kernel
theorem dX3_shareAmong_19 : decode cX3_shareAmong 19 = .ok (.aload_n 0, 1) := by decide +kernel
theorem dX3_shareAmong_20 : decode cX3_shareAmong 20 = .ok (.iload_n 1, 1) := by decide +kernel
theorem dX3_shareAmong_21 : decode cX3_shareAmong 21 = .ok (.invokevirtual 52, 3) := by decide +kernel
theorem dX3_shareAmong_24 : decode cX3_shareAmong 24 = .ok (.istore 4, 2) := by decide +kernel
theorem dX3_shareAmong_26 : decode cX3_shareAmong 26 = .ok (.aload_n 0, 1) := by decide +kernel
theorem dX3_shareAmong_27 : decode cX3_shareAmong 27 = .ok (.getfield 9, 3) := by decide +kernel
theorem dX3_shareAmong_30 : decode cX3_shareAmong 30 = .ok (.iconst 3, 1) := by decide +kernel
theorem dX3_shareAmong_31 : decode cX3_shareAmong 31 = .ok (.iaload, 1) := by decide +kernel
theorem dX3_shareAmong_32 : decode cX3_shareAmong 32 = .ok (.istore 5, 2) := by decide +kernel
theorem dX3_shareAmong_34 : decode cX3_shareAmong 34 = .ok (.lconst 0, 1) := by decide +kernel
theorem dX3_shareAmong_35 : decode cX3_shareAmong 35 = .ok (.lstore 6, 2) := by decide +kernel
theorem dX3_shareAmong_37 : decode cX3_shareAmong 37 = .ok (.iload_n 3, 1) := by decide +kernel
theorem dX3_shareAmong_38 : decode cX3_shareAmong 38 = .ok (.istore 8, 2) := by decide +kernel
theorem dX3_shareAmong_40 : decode cX3_shareAmong 40 = .ok (.iload 8, 2) := by decide +kernel
theorem dX3_shareAmong_42 : decode cX3_shareAmong 42 = .ok (.iload 4, 2) := by decide +kernel
theorem dX3_shareAmong_44 : decode cX3_shareAmong 44 = .ok (.if_icmp .gt 69, 3) := by decide +kernel
theorem dX3_shareAmong_47 : decode cX3_shareAmong 47 = .ok (.aload_n 0, 1) := by decide +kernel
theorem dX3_shareAmong_48 : decode cX3_shareAmong 48 = .ok (.iload 8, 2) := by decide +kernel
theorem dX3_shareAmong_50 : decode cX3_shareAmong 50 = .ok (.invokevirtual 37, 3) := by decide +kernel
theorem dX3_shareAmong_53 : decode cX3_shareAmong 53 = .ok (.istore 9, 2) := by decide +kernel
theorem dX3_shareAmong_55 : decode cX3_shareAmong 55 = .ok (.aload_n 0, 1) := by decide +kernel
theorem dX3_shareAmong_56 : decode cX3_shareAmong 56 = .ok (.getfield 24, 3) := by decide +kernel
theorem dX3_shareAmong_59 : decode cX3_shareAmong 59 = .ok (.iload 8, 2) := by decide +kernel
theorem dX3_shareAmong_61 : decode cX3_shareAmong 61 = .ok (.iload 5, 2) := by decide +kernel
theorem dX3_shareAmong_63 : decode cX3_shareAmong 63 = .ok (.iconst 1, 1) := by decide +kernel
theorem dX3_shareAmong_64 : decode cX3_shareAmong 64 = .ok (.if_icmp .ne 12, 3) := by decide +kernel
theorem dX3_shareAmong_67 : decode cX3_shareAmong 67 = .ok (.aload_n 0, 1) := by decide +kernel
theorem dX3_shareAmong_68 : decode cX3_shareAmong 68 = .ok (.iload 8, 2) := by decide +kernel
theorem dX3_shareAmong_70 : decode cX3_shareAmong 70 = .ok (.invokevirtual 55, 3) := by decide +kernel
theorem dX3_shareAmong_73 : decode cX3_shareAmong 73 = .ok (.goto 20, 3) := by decide +kernel
theorem dX3_shareAmong_76 : decode cX3_shareAmong 76 = .ok (.iload 5, 2) := by decide +kernel
theorem dX3_shareAmong_78 : decode cX3_shareAmong 78 = .ok (.iconst 2, 1) := by decide +kernel
theorem dX3_shareAmong_79 : decode cX3_shareAmong 79 = .ok (.if_icmp .ne 8, 3) := by decide +kernel
theorem dX3_shareAmong_82 : decode cX3_shareAmong 82 = .ok (.iload 9, 2) := by decide +kernel
theorem dX3_shareAmong_84 : decode cX3_shareAmong 84 = .ok (.goto 9, 3) := by decide +kernel
theorem dX3_shareAmong_87 : decode cX3_shareAmong 87 = .ok (.iload 9, 2) := by decide +kernel
theorem dX3_shareAmong_89 : decode cX3_shareAmong 89 = .ok (.iconst 1, 1) := by decide +kernel
theorem dX3_shareAmong_90 : decode cX3_shareAmong 90 = .ok (.invokestatic 81, 3) := by decide +kernel
theorem dX3_shareAmong_93 : decode cX3_shareAmong 93 = .ok (.iastore, 1) := by decide +kernel
theorem dX3_shareAmong_94 : decode cX3_shareAmong 94 = .ok (.lload 6, 2) := by decide +kernel
theorem dX3_shareAmong_96 : decode cX3_shareAmong 96 = .ok (.aload_n 0, 1) := by decide +kernel
theorem dX3_shareAmong_97 : decode cX3_shareAmong 97 = .ok (.getfield 24, 3) := by decide +kernel
theorem dX3_shareAmong_100 : decode cX3_shareAmong 100 = .ok (.iload 8, 2) := by decide +kernel
theorem dX3_shareAmong_102 : decode cX3_shareAmong 102 = .ok (.iaload, 1) := by decide +kernel
theorem dX3_shareAmong_103 : decode cX3_shareAmong 103 = .ok (.i2l, 1) := by decide +kernel
theorem dX3_shareAmong_104 : decode cX3_shareAmong 104 = .ok (.ladd, 1) := by decide +kernel
theorem dX3_shareAmong_105 : decode cX3_shareAmong 105 = .ok (.lstore 6, 2) := by decide +kernel
theorem dX3_shareAmong_107 : decode cX3_shareAmong 107 = .ok (.iinc 8 1, 3) := by decide +kernel
theorem dX3_shareAmong_110 : decode cX3_shareAmong 110 = .ok (.goto (-70), 3) := by decide +kernel
theorem dX3_shareAmong_113 : decode cX3_shareAmong 113 = .ok (.lload 6, 2) := by decide +kernel
theorem dX3_shareAmong_115 : decode cX3_shareAmong 115 = .ok (.lconst 0, 1) := by decide +kernel
theorem dX3_shareAmong_116 : decode cX3_shareAmong 116 = .ok (.lcmp, 1) := by decide +kernel
theorem dX3_shareAmong_117 : decode cX3_shareAmong 117 = .ok (.ifCond .gt 24, 3) := by decide +kernel
theorem dX3_shareAmong_120 : decode cX3_shareAmong 120 = .ok (.aload_n 0, 1) := by decide +kernel
theorem dX3_shareAmong_121 : decode cX3_shareAmong 121 = .ok (.getfield 24, 3) := by decide +kernel
theorem dX3_shareAmong_124 : decode cX3_shareAmong 124 = .ok (.iconst 1, 1) := by decide +kernel
theorem dX3_shareAmong_125 : decode cX3_shareAmong 125 = .ok (.invokestatic 84, 3) := by decide +kernel
theorem dX3_shareAmong_128 : decode cX3_shareAmong 128 = .ok (.iconst 1, 1) := by decide +kernel
theorem dX3_shareAmong_129 : decode cX3_shareAmong 129 = .ok (.iload 4, 2) := by decide +kernel
theorem dX3_shareAmong_131 : decode cX3_shareAmong 131 = .ok (.iload_n 3, 1) := by decide +kernel
theorem dX3_shareAmong_132 : decode cX3_shareAmong 132 = .ok (.isub, 1) := by decide +kernel
theorem dX3_shareAmong_133 : decode cX3_shareAmong 133 = .ok (.iconst 1, 1) := by decide +kernel
theorem dX3_shareAmong_134 : decode cX3_shareAmong 134 = .ok (.iadd, 1) := by decide +kernel
theorem dX3_shareAmong_135 : decode cX3_shareAmong 135 = .ok (.invokestatic 62, 3) := by decide +kernel
theorem dX3_shareAmong_138 : decode cX3_shareAmong 138 = .ok (.i2l, 1) := by decide +kernel
theorem dX3_shareAmong_139 : decode cX3_shareAmong 139 = .ok (.lstore 6, 2) := by decide +kernel
theorem dX3_shareAmong_141 : decode cX3_shareAmong 141 = .ok (.iload_n 2, 1) := by decide +kernel
theorem dX3_shareAmong_142 : decode cX3_shareAmong 142 = .ok (.istore 8, 2) := by decide +kernel
theorem dX3_shareAmong_144 : decode cX3_shareAmong 144 = .ok (.iload_n 3, 1) := by decide +kernel
theorem dX3_shareAmong_145 : decode cX3_shareAmong 145 = .ok (.istore 9, 2) := by decide +kernel
theorem dX3_shareAmong_147 : decode cX3_shareAmong 147 = .ok (.iload 9, 2) := by decide +kernel
theorem dX3_shareAmong_149 : decode cX3_shareAmong 149 = .ok (.iload 4, 2) := by decide +kernel
theorem dX3_shareAmong_151 : decode cX3_shareAmong 151 = .ok (.if_icmp .gt 45, 3) := by decide +kernel
theorem dX3_shareAmong_154 : decode cX3_shareAmong 154 = .ok (.iload_n 2, 1) := by decide +kernel
theorem dX3_shareAmong_155 : decode cX3_shareAmong 155 = .ok (.i2l, 1) := by decide +kernel
theorem dX3_shareAmong_156 : decode cX3_shareAmong 156 = .ok (.aload_n 0, 1) := by decide +kernel
theorem dX3_shareAmong_157 : decode cX3_shareAmong 157 = .ok (.getfield 24, 3) := by decide +kernel
theorem dX3_shareAmong_160 : decode cX3_shareAmong 160 = .ok (.iload 9, 2) := by decide +kernel
theorem dX3_shareAmong_162 : decode cX3_shareAmong 162 = .ok (.iaload, 1) := by decide +kernel
theorem dX3_shareAmong_163 : decode cX3_shareAmong 163 = .ok (.i2l, 1) := by decide +kernel
theorem dX3_shareAmong_164 : decode cX3_shareAmong 164 = .ok (.lmul, 1) := by decide +kernel
theorem dX3_shareAmong_165 : decode cX3_shareAmong 165 = .ok (.lload 6, 2) := by decide +kernel
theorem dX3_shareAmong_167 : decode cX3_shareAmong 167 = .ok (.ldiv, 1) := by decide +kernel
theorem dX3_shareAmong_168 : decode cX3_shareAmong 168 = .ok (.l2i, 1) := by decide +kernel
theorem dX3_shareAmong_169 : decode cX3_shareAmong 169 = .ok (.istore 10, 2) := by decide +kernel
theorem dX3_shareAmong_171 : decode cX3_shareAmong 171 = .ok (.aload_n 0, 1) := by decide +kernel
theorem dX3_shareAmong_172 : decode cX3_shareAmong 172 = .ok (.getfield 21, 3) := by decide +kernel
theorem dX3_shareAmong_175 : decode cX3_shareAmong 175 = .ok (.iload 9, 2) := by decide +kernel
theorem dX3_shareAmong_177 : decode cX3_shareAmong 177 = .ok (.dup2, 1) := by decide +kernel
theorem dX3_shareAmong_178 : decode cX3_shareAmong 178 = .ok (.iaload, 1) := by decide +kernel
theorem dX3_shareAmong_179 : decode cX3_shareAmong 179 = .ok (.iload 10, 2) := by decide +kernel
theorem dX3_shareAmong_181 : decode cX3_shareAmong 181 = .ok (.iadd, 1) := by decide +kernel
theorem dX3_shareAmong_182 : decode cX3_shareAmong 182 = .ok (.iastore, 1) := by decide +kernel
theorem dX3_shareAmong_183 : decode cX3_shareAmong 183 = .ok (.iload 8, 2) := by decide +kernel
theorem dX3_shareAmong_185 : decode cX3_shareAmong 185 = .ok (.iload 10, 2) := by decide +kernel
theorem dX3_shareAmong_187 : decode cX3_shareAmong 187 = .ok (.isub, 1) := by decide +kernel
theorem dX3_shareAmong_188 : decode cX3_shareAmong 188 = .ok (.istore 8, 2) := by decide +kernel
theorem dX3_shareAmong_190 : decode cX3_shareAmong 190 = .ok (.iinc 9 1, 3) := by decide +kernel
theorem dX3_shareAmong_193 : decode cX3_shareAmong 193 = .ok (.goto (-46), 3) := by decide +kernel
theorem dX3_shareAmong_196 : decode cX3_shareAmong 196 = .ok (.aload_n 0, 1) := by decide +kernel
theorem dX3_shareAmong_197 : decode cX3_shareAmong 197 = .ok (.iload_n 3, 1) := by decide +kernel
theorem dX3_shareAmong_198 : decode cX3_shareAmong 198 = .ok (.iload 4, 2) := by decide +kernel
theorem dX3_shareAmong_200 : decode cX3_shareAmong 200 = .ok (.iload 8, 2) := by decide +kernel
theorem dX3_shareAmong_202 : decode cX3_shareAmong 202 = .ok (.invokevirtual 90, 3) := by decide +kernel
theorem dX3_shareAmong_205 : decode cX3_shareAmong 205 = .ok (.return_, 1) := by decide +kernel
theorem dX3_spreadByOnes_0 : decode cX3_spreadByOnes 0 = .ok (.iload_n 3, 1) := by decide +kernel
theorem dX3_spreadByOnes_1 : decode cX3_spreadByOnes 1 = .ok (.ifCond .ge 7, 3) := by decide +kernel
theorem dX3_spreadByOnes_4 : decode cX3_spreadByOnes 4 = .ok (.iconst (-1), 1) := by decide +kernel
theorem dX3_spreadByOnes_5 : decode cX3_spreadByOnes 5 = .ok (.goto 4, 3) := by decide +kernel
theorem dX3_spreadByOnes_8 : decode cX3_spreadByOnes 8 = .ok (.iconst 1, 1) := by decide +kernel
theorem dX3_spreadByOnes_9 : decode cX3_spreadByOnes 9 = .ok (.istore 4, 2) := by decide +kernel
theorem dX3_spreadByOnes_11 : decode cX3_spreadByOnes 11 = .ok (.iload_n 3, 1) := by decide +kernel
theorem dX3_spreadByOnes_12 : decode cX3_spreadByOnes 12 = .ok (.istore 5, 2) := by decide +kernel
theorem dX3_spreadByOnes_14 : decode cX3_spreadByOnes 14 = .ok (.iload_n 1, 1) := by decide +kernel
theorem dX3_spreadByOnes_15 : decode cX3_spreadByOnes 15 = .ok (.istore 6, 2) := by decide +kernel
theorem dX3_spreadByOnes_17 : decode cX3_spreadByOnes 17 = .ok (.iload 6, 2) := by decide +kernel
theorem dX3_spreadByOnes_19 : decode cX3_spreadByOnes 19 = .ok (.iload_n 2, 1) := by decide +kernel
theorem dX3_spreadByOnes_20 : decode cX3_spreadByOnes 20 = .ok (.if_icmp .gt 43, 3) := by decide +kernel
theorem dX3_spreadByOnes_23 : decode cX3_spreadByOnes 23 = .ok (.iload 5, 2) := by decide +kernel
theorem dX3_spreadByOnes_25 : decode cX3_spreadByOnes 25 = .ok (.ifCond .eq 38, 3) := by decide +kernel
theorem dX3_spreadByOnes_28 : decode cX3_spreadByOnes 28 = .ok (.aload_n 0, 1) := by decide +kernel
theorem dX3_spreadByOnes_29 : decode cX3_spreadByOnes 29 = .ok (.getfield 24, 3) := by decide +kernel
theorem dX3_spreadByOnes_32 : decode cX3_spreadByOnes 32 = .ok (.iload 6, 2) := by decide +kernel
theorem dX3_spreadByOnes_34 : decode cX3_spreadByOnes 34 = .ok (.iaload, 1) := by decide +kernel
theorem dX3_spreadByOnes_35 : decode cX3_spreadByOnes 35 = .ok (.ifCond .le 22, 3) := by decide +kernel
theorem dX3_spreadByOnes_38 : decode cX3_spreadByOnes 38 = .ok (.aload_n 0, 1) := by decide +kernel
theorem dX3_spreadByOnes_39 : decode cX3_spreadByOnes 39 = .ok (.getfield 21, 3) := by decide +kernel
theorem dX3_spreadByOnes_42 : decode cX3_spreadByOnes 42 = .ok (.iload 6, 2) := by decide +kernel
theorem dX3_spreadByOnes_44 : decode cX3_spreadByOnes 44 = .ok (.dup2, 1) := by decide +kernel
theorem dX3_spreadByOnes_45 : decode cX3_spreadByOnes 45 = .ok (.iaload, 1) := by decide +kernel
theorem dX3_spreadByOnes_46 : decode cX3_spreadByOnes 46 = .ok (.iload 4, 2) := by decide +kernel
theorem dX3_spreadByOnes_48 : decode cX3_spreadByOnes 48 = .ok (.iadd, 1) := by decide +kernel
theorem dX3_spreadByOnes_49 : decode cX3_spreadByOnes 49 = .ok (.iastore, 1) := by decide +kernel
theorem dX3_spreadByOnes_50 : decode cX3_spreadByOnes 50 = .ok (.iload 5, 2) := by decide +kernel
theorem dX3_spreadByOnes_52 : decode cX3_spreadByOnes 52 = .ok (.iload 4, 2) := by decide +kernel
theorem dX3_spreadByOnes_54 : decode cX3_spreadByOnes 54 = .ok (.isub, 1) := by decide +kernel
theorem dX3_spreadByOnes_55 : decode cX3_spreadByOnes 55 = .ok (.istore 5, 2) := by decide +kernel
theorem dX3_spreadByOnes_57 : decode cX3_spreadByOnes 57 = .ok (.iinc 6 1, 3) := by decide +kernel
theorem dX3_spreadByOnes_60 : decode cX3_spreadByOnes 60 = .ok (.goto (-43), 3) := by decide +kernel
theorem dX3_spreadByOnes_63 : decode cX3_spreadByOnes 63 = .ok (.return_, 1) := by decide +kernel
end
section
set_option maxRecDepth 20000 in
theorem ggX4_init_X3_init : GoodIn wsX4_init wsX3_init := goodIn_r _ [23, 24, 2, 3, 25, 26, 27, 28, 29, 30, 31, 32, 33, 55, 56, 57, 58, 59, 60, 61, 62] (by decide +kernel) (by decide +kernel)
set_option maxRecDepth 20000 in
theorem gX4_init_X3_init_n9 : GoodIn wsX4_init (wsX3_init) := ggX4_init_X3_init
set_option maxRecDepth 20000 in
theorem ggX4_init_X2_init : GoodIn wsX4_init wsX2_init := goodIn_r _ [36, 37, 2, 3, 38, 39, 40, 41, 5, 6, 22, 23, 24, 25, 26, 27, 28, 29, 30, 31, 32, 33, 69, 70, 71, 55, 56, 57, 58, 59, 60, 61, 62] (by decide +kernel) (by decide +kernel)
set_option maxRecDepth 20000 in
theorem gX4_init_X2_init : GoodIn wsX4_init (wsX2_init) := ggX4_init_X2_init
set_option maxRecDepth 20000 in
theorem ggX4_init_X0_init : GoodIn wsX4_init wsX0_init := goodIn_r _ [43, 44, 2, 3, 25, 45, 46, 47, 72, 73, 74] (by decide +kernel) (by decide +kernel)
set_option maxRecDepth 20000 in
theorem gX4_init_X0_init_n28 : GoodIn wsX4_init (wsX0_init) := ggX4_init_X0_init
set_option maxRecDepth 20000 in
theorem ggX4_init_X1_init : GoodIn wsX4_init wsX1_init := goodIn_r _ [49, 50, 2, 3, 51, 5, 6, 52, 53, 54, 22, 23, 24, 25, 26, 27, 28, 29, 30, 31, 32, 33, 55, 56, 57, 58, 59, 60, 61, 62, 75, 76, 77] (by decide +kernel) (by decide +kernel)
set_option maxRecDepth 20000 in
theorem gX4_init_X1_init_n43 : GoodIn wsX4_init (wsX1_init) := ggX4_init_X1_init
theorem dX4_init_0 : decode cX4_init 0 = .ok (.aload_n 0, 1) := by decide +kernel
theorem dX4_init_1 : decode cX4_init 1 = .ok (.invokespecial 1, 3) := by decide +kernel
theorem dX4_init_4 : decode cX4_init 4 = .ok (.aload_n 0, 1) := by decide +kernel
theorem dX4_init_5 : decode cX4_init 5 = .ok (.new 7, 3) := by decide +kernel
theorem dX4_init_8 : decode cX4_init 8 = .ok (.dup, 1) := by decide +kernel
theorem dX4_init_9 : decode cX4_init 9 = .ok (.invokespecial 9, 3) := by decide +kernel
theorem dX4_init_12 : decode cX4_init 12 = .ok (.putfield 10, 3) := by decide +kernel
theorem dX4_init_15 : decode cX4_init 15 = .ok (.aload_n 0, 1) := by decide +kernel
theorem dX4_init_16 : decode cX4_init 16 = .ok (.new 7, 3) := by decide +kernel
theorem dX4_init_19 : decode cX4_init 19 = .ok (.dup, 1) := by decide +kernel
theorem dX4_init_20 : decode cX4_init 20 = .ok (.invokespecial 9, 3) := by decide +kernel
theorem dX4_init_23 : decode cX4_init 23 = .ok (.putfield 16, 3) := by decide +kernel
theorem dX4_init_26 : decode cX4_init 26 = .ok (.aload_n 0, 1) := by decide +kernel
theorem dX4_init_27 : decode cX4_init 27 = .ok (.new 19, 3) := by decide +kernel
theorem dX4_init_30 : decode cX4_init 30 = .ok (.dup, 1) := by decide +kernel
theorem dX4_init_31 : decode cX4_init 31 = .ok (.invokespecial 21, 3) := by decide +kernel
theorem dX4_init_34 : decode cX4_init 34 = .ok (.putfield 22, 3) := by decide +kernel
theorem dX4_init_37 : decode cX4_init 37 = .ok (.aload_n 0, 1) := by decide +kernel
theorem dX4_init_38 : decode cX4_init 38 = .ok (.new 26, 3) := by decide +kernel
theorem dX4_init_41 : decode cX4_init 41 = .ok (.dup, 1) := by decide +kernel
theorem dX4_init_42 : decode cX4_init 42 = .ok (.invokespecial 28, 3) := by decide +kernel
theorem dX4_init_45 : decode cX4_init 45 = .ok (.putfield 29, 3) := by decide +kernel
theorem dX4_init_48 : decode cX4_init 48 = .ok (.aload_n 0, 1) := by decide +kernel
theorem dX4_init_49 : decode cX4_init 49 = .ok (.iconst 2, 1) := by decide +kernel
theorem dX4_init_50 : decode cX4_init 50 = .ok (.anewarray 33, 3) := by decide +kernel
theorem dX4_init_53 : decode cX4_init 53 = .ok (.putfield 35, 3) := by decide +kernel
theorem dX4_init_56 : decode cX4_init 56 = .ok (.aload_n 0, 1) := by decide +kernel
theorem dX4_init_57 : decode cX4_init 57 = .ok (.iconst 0, 1) := by decide +kernel
theorem dX4_init_58 : decode cX4_init 58 = .ok (.putfield 39, 3) := by decide +kernel
theorem dX4_init_61 : decode cX4_init 61 = .ok (.iconst 0, 1) := by decide +kernel
theorem dX4_init_62 : decode cX4_init 62 = .ok (.istore_n 1, 1) := by decide +kernel
theorem dX4_init_63 : decode cX4_init 63 = .ok (.iload_n 1, 1) := by decide +kernel
theorem dX4_init_64 : decode cX4_init 64 = .ok (.iconst 2, 1) := by decide +kernel
theorem dX4_init_65 : decode cX4_init 65 = .ok (.if_icmp .ge 22, 3) := by decide +kernel
theorem dX4_init_68 : decode cX4_init 68 = .ok (.aload_n 0, 1) := by decide +kernel
theorem dX4_init_69 : decode cX4_init 69 = .ok (.getfield 35, 3) := by decide +kernel
theorem dX4_init_72 : decode cX4_init 72 = .ok (.iload_n 1, 1) := by decide +kernel
theorem dX4_init_73 : decode cX4_init 73 = .ok (.new 33, 3) := by decide +kernel
theorem dX4_init_76 : decode cX4_init 76 = .ok (.dup, 1) := by decide +kernel
theorem dX4_init_77 : decode cX4_init 77 = .ok (.invokespecial 43, 3) := by decide +kernel
theorem dX4_init_80 : decode cX4_init 80 = .ok (.aastore, 1) := by decide +kernel
theorem dX4_init_81 : decode cX4_init 81 = .ok (.iinc 1 1, 3) := by decide +kernel
theorem dX4_init_84 : decode cX4_init 84 = .ok (.goto (-21), 3) := by decide +kernel
theorem dX4_init_87 : decode cX4_init 87 = .ok (.return_, 1) := by decide +kernel
set_option maxRecDepth 20000 in
theorem ggX4_told_X3_weakSet : GoodIn wsX4_told wsX3_weakSet := goodIn_r _ [15, 16, 17, 18, 19, 20, 14, 21, 22, 23, 24, 25, 26, 27, 28, 29, 30, 31, 32, 33, 34, 117, 118, 119, 120, 121, 122, 123, 124] (by decide +kernel) (by decide +kernel)
set_option maxRecDepth 20000 in
theorem gX4_told_X3_weakSet : GoodIn wsX4_told (wsV RX4 57 RX3 yX3_weakSet wsX3_weakSet) := goodIn_app (goodIn_of _ (by decide +kernel)) ggX4_told_X3_weakSet
set_option maxRecDepth 20000 in
theorem ggX4_told_X3_isSafe : GoodIn wsX4_told wsX3_isSafe := goodIn_r _ [38, 39, 12, 13, 14, 15, 16, 17, 18, 19, 20, 21, 22, 23, 24, 25, 26, 27, 28, 29, 30, 31, 32, 33, 34, 117, 118, 119, 120, 121, 122, 123, 124] (by decide +kernel) (by decide +kernel)
set_option maxRecDepth 20000 in
theorem gX4_told_X3_isSafe : GoodIn wsX4_told (wsV RX4 61 RX3 yX3_isSafe wsX3_isSafe) := goodIn_app (goodIn_of _ (by decide +kernel)) ggX4_told_X3_isSafe
set_option maxRecDepth 20000 in
theorem ggX4_told_X4_maySet : GoodIn wsX4_told wsX4_maySet := goodIn_r _ [43, 1, 3, 44, 45, 46, 31, 47, 48, 2, 49, 50, 51, 14, 52, 16, 53, 54, 55, 56, 57, 58, 59, 60, 61, 23, 29, 22, 17, 28, 62, 63, 64, 65, 66, 67, 68, 69, 70, 71, 72, 73, 74, 75, 76, 77, 78, 79, 80, 81, 82, 83, 84, 85, 86, 87, 88, 89, 90, 91, 24, 25, 26, 27, 18, 19, 20, 21, 30, 32, 33, 34, 92, 93, 94, 95, 96, 97, 98, 99, 35, 36, 37, 38, 39, 12, 13, 15, 111, 112, 113, 114, 115, 116, 117, 118, 119, 120, 121, 122, 123, 124] (by decide +kernel) (by decide +kernel)
set_option maxRecDepth 20000 in
theorem gX4_told_X4_maySet : GoodIn wsX4_told (wsV RX4 65 RX4 yX4_maySet wsX4_maySet) := goodIn_app (goodIn_of _ (by decide +kernel)) ggX4_told_X4_maySet
set_option maxRecDepth 20000 in
theorem ggX4_told_X3_has : GoodIn wsX4_told wsX3_has := goodIn_r _ [52, 16, 117, 118, 119, 120, 121, 122, 123, 124] (by decide +kernel) (by decide +kernel)
set_option maxRecDepth 20000 in
theorem gX4_told_X3_has : GoodIn wsX4_told (wsV RX4 68 RX3 yX3_has wsX3_has) := goodIn_app (goodIn_of _ (by decide +kernel)) ggX4_told_X3_has
set_option maxRecDepth 20000 in
theorem ggX4_told_X3_forceUnder : GoodIn wsX4_told wsX3_forceUnder := goodIn_r _ [70, 23, 17, 71, 54, 55, 14, 56, 57, 72, 73, 74, 75, 16, 117, 118, 119, 120, 121, 122, 123, 124] (by decide +kernel) (by decide +kernel)
set_option maxRecDepth 20000 in
theorem gX4_told_X3_forceUnder : GoodIn wsX4_told (wsV RX4 72 RX3 yX3_forceUnder wsX3_forceUnder) := goodIn_app (goodIn_of _ (by decide +kernel)) ggX4_told_X3_forceUnder
set_option maxRecDepth 20000 in
theorem ggX4_told_X0_firstWrong : GoodIn wsX4_told wsX0_firstWrong := goodIn_r _ [105, 106, 107, 108, 109, 110, 50, 51, 14, 52, 16, 125, 126, 127, 117, 118, 119, 120, 121, 122, 123, 124] (by decide +kernel) (by decide +kernel)
set_option maxRecDepth 20000 in
theorem gX4_told_X0_firstWrong : GoodIn wsX4_told (wsV RX4 79 RX0 yX0_firstWrong wsX0_firstWrong) := goodIn_app (goodIn_of _ (by decide +kernel)) ggX4_told_X0_firstWrong
theorem dX4_told_0 : decode cX4_told 0 = .ok (.iload_n 1, 1) := by decide +kernel
theorem dX4_told_1 : decode cX4_told 1 = .ok (.tableswitch 216 0 13 #[71, 79, 87, 97, 107, 117, 127, 135, 143, 159, 164, 188, 196, 208], 71) := by decide +kernel
theorem dX4_told_72 : decode cX4_told 72 = .ok (.aload_n 0, 1) := by decide +kernel
theorem dX4_told_73 : decode cX4_told 73 = .ok (.getfield 10, 3) := by decide +kernel
theorem dX4_told_76 : decode cX4_told 76 = .ok (.getfield 44, 3) := by decide +kernel
theorem dX4_told_79 : decode cX4_told 79 = .ok (.ireturn, 1) := by decide +kernel
theorem dX4_told_80 : decode cX4_told 80 = .ok (.aload_n 0, 1) := by decide +kernel
theorem dX4_told_81 : decode cX4_told 81 = .ok (.getfield 10, 3) := by decide +kernel
theorem dX4_told_84 : decode cX4_told 84 = .ok (.getfield 47, 3) := by decide +kernel
theorem dX4_told_87 : decode cX4_told 87 = .ok (.ireturn, 1) := by decide +kernel
theorem dX4_told_88 : decode cX4_told 88 = .ok (.aload_n 0, 1) := by decide +kernel
theorem dX4_told_89 : decode cX4_told 89 = .ok (.getfield 10, 3) := by decide +kernel
theorem dX4_told_92 : decode cX4_told 92 = .ok (.getfield 50, 3) := by decide +kernel
theorem dX4_told_95 : decode cX4_told 95 = .ok (.iconst 0, 1) := by decide +kernel
theorem dX4_told_96 : decode cX4_told 96 = .ok (.iaload, 1) := by decide +kernel
theorem dX4_told_97 : decode cX4_told 97 = .ok (.ireturn, 1) := by decide +kernel
theorem dX4_told_98 : decode cX4_told 98 = .ok (.aload_n 0, 1) := by decide +kernel
theorem dX4_told_99 : decode cX4_told 99 = .ok (.getfield 10, 3) := by decide +kernel
theorem dX4_told_102 : decode cX4_told 102 = .ok (.getfield 50, 3) := by decide +kernel
theorem dX4_told_105 : decode cX4_told 105 = .ok (.iconst 1, 1) := by decide +kernel
theorem dX4_told_106 : decode cX4_told 106 = .ok (.iaload, 1) := by decide +kernel
theorem dX4_told_107 : decode cX4_told 107 = .ok (.ireturn, 1) := by decide +kernel
theorem dX4_told_108 : decode cX4_told 108 = .ok (.aload_n 0, 1) := by decide +kernel
theorem dX4_told_109 : decode cX4_told 109 = .ok (.getfield 10, 3) := by decide +kernel
theorem dX4_told_112 : decode cX4_told 112 = .ok (.getfield 50, 3) := by decide +kernel
theorem dX4_told_115 : decode cX4_told 115 = .ok (.iconst 2, 1) := by decide +kernel
theorem dX4_told_116 : decode cX4_told 116 = .ok (.iaload, 1) := by decide +kernel
theorem dX4_told_117 : decode cX4_told 117 = .ok (.ireturn, 1) := by decide +kernel
theorem dX4_told_118 : decode cX4_told 118 = .ok (.aload_n 0, 1) := by decide +kernel
theorem dX4_told_119 : decode cX4_told 119 = .ok (.getfield 10, 3) := by decide +kernel
theorem dX4_told_122 : decode cX4_told 122 = .ok (.getfield 50, 3) := by decide +kernel
theorem dX4_told_125 : decode cX4_told 125 = .ok (.iconst 3, 1) := by decide +kernel
theorem dX4_told_126 : decode cX4_told 126 = .ok (.iaload, 1) := by decide +kernel
theorem dX4_told_127 : decode cX4_told 127 = .ok (.ireturn, 1) := by decide +kernel
theorem dX4_told_128 : decode cX4_told 128 = .ok (.aload_n 0, 1) := by decide +kernel
theorem dX4_told_129 : decode cX4_told 129 = .ok (.getfield 10, 3) := by decide +kernel
theorem dX4_told_132 : decode cX4_told 132 = .ok (.getfield 54, 3) := by decide +kernel
theorem dX4_told_135 : decode cX4_told 135 = .ok (.ireturn, 1) := by decide +kernel
theorem dX4_told_136 : decode cX4_told 136 = .ok (.aload_n 0, 1) := by decide +kernel
theorem dX4_told_137 : decode cX4_told 137 = .ok (.getfield 10, 3) := by decide +kernel
theorem dX4_told_140 : decode cX4_told 140 = .ok (.invokevirtual 57, 3) := by decide +kernel
theorem dX4_told_143 : decode cX4_told 143 = .ok (.ireturn, 1) := by decide +kernel
theorem dX4_told_144 : decode cX4_told 144 = .ok (.aload_n 0, 1) := by decide +kernel
theorem dX4_told_145 : decode cX4_told 145 = .ok (.getfield 10, 3) := by decide +kernel
theorem dX4_told_148 : decode cX4_told 148 = .ok (.invokevirtual 61, 3) := by decide +kernel
theorem dX4_told_151 : decode cX4_told 151 = .ok (.ifCond .eq 7, 3) := by decide +kernel
theorem dX4_told_154 : decode cX4_told 154 = .ok (.iconst 1, 1) := by decide +kernel
theorem dX4_told_155 : decode cX4_told 155 = .ok (.goto 4, 3) := by decide +kernel
theorem dX4_told_158 : decode cX4_told 158 = .ok (.iconst 0, 1) := by decide +kernel
theorem dX4_told_159 : decode cX4_told 159 = .ok (.ireturn, 1) := by decide +kernel
theorem dX4_told_160 : decode cX4_told 160 = .ok (.aload_n 0, 1) := by decide +kernel
theorem dX4_told_161 : decode cX4_told 161 = .ok (.invokevirtual 65, 3) := by decide +kernel
theorem dX4_told_164 : decode cX4_told 164 = .ok (.ireturn, 1) := by decide +kernel
theorem dX4_told_165 : decode cX4_told 165 = .ok (.aload_n 0, 1) := by decide +kernel
theorem dX4_told_166 : decode cX4_told 166 = .ok (.getfield 10, 3) := by decide +kernel
theorem dX4_told_169 : decode cX4_told 169 = .ok (.iconst 0, 1) := by decide +kernel
theorem dX4_told_170 : decode cX4_told 170 = .ok (.invokevirtual 68, 3) := by decide +kernel
theorem dX4_told_173 : decode cX4_told 173 = .ok (.ifCond .eq 14, 3) := by decide +kernel
theorem dX4_told_176 : decode cX4_told 176 = .ok (.aload_n 0, 1) := by decide +kernel
theorem dX4_told_177 : decode cX4_told 177 = .ok (.getfield 10, 3) := by decide +kernel
theorem dX4_told_180 : decode cX4_told 180 = .ok (.iconst 0, 1) := by decide +kernel
theorem dX4_told_181 : decode cX4_told 181 = .ok (.invokevirtual 72, 3) := by decide +kernel
theorem dX4_told_184 : decode cX4_told 184 = .ok (.goto 4, 3) := by decide +kernel
theorem dX4_told_187 : decode cX4_told 187 = .ok (.iconst 0, 1) := by decide +kernel
theorem dX4_told_188 : decode cX4_told 188 = .ok (.ireturn, 1) := by decide +kernel
theorem dX4_told_189 : decode cX4_told 189 = .ok (.aload_n 0, 1) := by decide +kernel
theorem dX4_told_190 : decode cX4_told 190 = .ok (.getfield 29, 3) := by decide +kernel
theorem dX4_told_193 : decode cX4_told 193 = .ok (.getfield 76, 3) := by decide +kernel
theorem dX4_told_196 : decode cX4_told 196 = .ok (.ireturn, 1) := by decide +kernel
theorem dX4_told_197 : decode cX4_told 197 = .ok (.aload_n 0, 1) := by decide +kernel
theorem dX4_told_198 : decode cX4_told 198 = .ok (.getfield 29, 3) := by decide +kernel
theorem dX4_told_201 : decode cX4_told 201 = .ok (.aload_n 0, 1) := by decide +kernel
theorem dX4_told_202 : decode cX4_told 202 = .ok (.getfield 10, 3) := by decide +kernel
theorem dX4_told_205 : decode cX4_told 205 = .ok (.invokevirtual 79, 3) := by decide +kernel
theorem dX4_told_208 : decode cX4_told 208 = .ok (.ireturn, 1) := by decide +kernel
theorem dX4_told_209 : decode cX4_told 209 = .ok (.aload_n 0, 1) := by decide +kernel
theorem dX4_told_210 : decode cX4_told 210 = .ok (.getfield 22, 3) := by decide +kernel
theorem dX4_told_213 : decode cX4_told 213 = .ok (.getfield 83, 3) := by decide +kernel
theorem dX4_told_216 : decode cX4_told 216 = .ok (.ireturn, 1) := by decide +kernel
theorem dX4_told_217 : decode cX4_told 217 = .ok (.ldc 84, 2) := by decide +kernel
theorem dX4_told_219 : decode cX4_told 219 = .ok (.ireturn, 1) := by decide +kernel
set_option maxRecDepth 20000 in
theorem ggX4_floor_X3_has : GoodIn wsX4_floor wsX3_has := goodIn_r _ [10, 11, 118, 119, 120, 121, 122, 123, 124, 125] (by decide +kernel) (by decide +kernel)
set_option maxRecDepth 20000 in
theorem gX4_floor_X3_has : GoodIn wsX4_floor (wsV RX4 68 RX3 yX3_has wsX3_has) := goodIn_app (goodIn_of _ (by decide +kernel)) ggX4_floor_X3_has
set_option maxRecDepth 20000 in
theorem ggX4_floor_X3_ageOf : GoodIn wsX4_floor wsX3_ageOf := goodIn_r _ [15, 16, 17, 118, 119, 120, 121, 122, 123, 124, 125] (by decide +kernel) (by decide +kernel)
set_option maxRecDepth 20000 in
theorem gX4_floor_X3_ageOf : GoodIn wsX4_floor (wsV RX4 86 RX3 yX3_ageOf wsX3_ageOf) := goodIn_app (goodIn_of _ (by decide +kernel)) ggX4_floor_X3_ageOf
set_option maxRecDepth 20000 in
theorem ggX4_floor_X3_strengthOf : GoodIn wsX4_floor wsX3_strengthOf := goodIn_r _ [21, 22, 23, 24, 13, 14, 9, 15, 16, 17, 25, 26, 27, 28, 29, 118, 119, 120, 121, 122, 123, 124, 125] (by decide +kernel) (by decide +kernel)
set_option maxRecDepth 20000 in
theorem gX4_floor_X3_strengthOf : GoodIn wsX4_floor (wsV RX4 92 RX3 yX3_strengthOf wsX3_strengthOf) := goodIn_app (goodIn_of _ (by decide +kernel)) ggX4_floor_X3_strengthOf
set_option maxRecDepth 20000 in
theorem ggX4_floor_X3_isPropped : GoodIn wsX4_floor wsX3_isPropped := goodIn_r _ [33, 34, 118, 119, 120, 121, 122, 123, 124, 125] (by decide +kernel) (by decide +kernel)
set_option maxRecDepth 20000 in
theorem gX4_floor_X3_isPropped : GoodIn wsX4_floor (wsV RX4 98 RX3 yX3_isPropped wsX3_isPropped) := goodIn_app (goodIn_of _ (by decide +kernel)) ggX4_floor_X3_isPropped
set_option maxRecDepth 20000 in
theorem ggX4_floor_X3_forceUnder : GoodIn wsX4_floor wsX3_forceUnder := goodIn_r _ [38, 23, 39, 40, 31, 32, 9, 33, 34, 41, 42, 43, 44, 11, 118, 119, 120, 121, 122, 123, 124, 125] (by decide +kernel) (by decide +kernel)
set_option maxRecDepth 20000 in
theorem gX4_floor_X3_forceUnder : GoodIn wsX4_floor (wsV RX4 72 RX3 yX3_forceUnder wsX3_forceUnder) := goodIn_app (goodIn_of _ (by decide +kernel)) ggX4_floor_X3_forceUnder
set_option maxRecDepth 20000 in
theorem ggX4_floor_X3_lowestOf : GoodIn wsX4_floor wsX3_lowestOf := goodIn_r _ [48, 40, 31, 32, 9, 33, 34, 118, 119, 120, 121, 122, 123, 124, 125] (by decide +kernel) (by decide +kernel)
set_option maxRecDepth 20000 in
theorem gX4_floor_X3_lowestOf : GoodIn wsX4_floor (wsV RX4 101 RX3 yX3_lowestOf wsX3_lowestOf) := goodIn_app (goodIn_of _ (by decide +kernel)) ggX4_floor_X3_lowestOf
set_option maxRecDepth 20000 in
theorem ggX4_floor_X3_highestOf : GoodIn wsX4_floor wsX3_highestOf := goodIn_r _ [44, 11, 40, 31, 32, 9, 33, 34, 118, 119, 120, 121, 122, 123, 124, 125] (by decide +kernel) (by decide +kernel)
set_option maxRecDepth 20000 in
theorem gX4_floor_X3_highestOf : GoodIn wsX4_floor (wsV RX4 104 RX3 yX3_highestOf wsX3_highestOf) := goodIn_app (goodIn_of _ (by decide +kernel)) ggX4_floor_X3_highestOf
set_option maxRecDepth 20000 in
theorem ggX4_floor_X3_isGrounded : GoodIn wsX4_floor wsX3_isGrounded := goodIn_r _ [53, 54, 46, 47, 9, 48, 40, 31, 32, 33, 34, 118, 119, 120, 121, 122, 123, 124, 125] (by decide +kernel) (by decide +kernel)
set_option maxRecDepth 20000 in
theorem gX4_floor_X3_isGrounded : GoodIn wsX4_floor (wsV RX4 107 RX3 yX3_isGrounded wsX3_isGrounded) := goodIn_app (goodIn_of _ (by decide +kernel)) ggX4_floor_X3_isGrounded
set_option maxRecDepth 20000 in
theorem ggX4_floor_X4_earliestFor : GoodIn wsX4_floor wsX4_earliestFor := goodIn_r _ [58, 1, 30, 31, 32, 9, 33, 34, 59, 60, 61, 26, 62, 63, 64, 6, 7, 8, 10, 11, 65, 66, 67, 68, 23, 17, 22, 39, 16, 69, 70, 71, 72, 73, 74, 36, 37, 38, 40, 41, 42, 43, 44, 75, 76, 77, 78, 79, 80, 81, 82, 83, 84, 85, 86, 54, 46, 47, 48, 24, 13, 14, 15, 87, 19, 20, 21, 25, 27, 28, 29, 88, 89, 90, 91, 92, 93, 94, 95, 96, 97, 98, 99, 100, 101, 102, 103, 112, 113, 114, 115, 116, 117, 118, 119, 120, 121, 122, 123, 124, 125] (by decide +kernel) (by decide +kernel)
set_option maxRecDepth 20000 in
theorem gX4_floor_X4_earliestFor : GoodIn wsX4_floor (wsV RX4 110 RX4 yX4_earliestFor wsX4_earliestFor) := goodIn_app (goodIn_of _ (by decide +kernel)) ggX4_floor_X4_earliestFor
set_option maxRecDepth 20000 in
theorem ggX4_floor_X4_harmOf : GoodIn wsX4_floor wsX4_harmOf := goodIn_r _ [107, 1, 63, 30, 31, 32, 9, 33, 34, 59, 60, 61, 26, 62, 64, 6, 7, 8, 10, 11, 65, 66, 67, 68, 23, 17, 22, 39, 16, 69, 70, 71, 72, 73, 74, 36, 37, 38, 40, 41, 42, 43, 44, 75, 76, 77, 78, 79, 80, 81, 82, 83, 84, 85, 86, 54, 46, 47, 48, 24, 13, 14, 15, 87, 19, 20, 21, 25, 27, 28, 29, 88, 89, 90, 91, 92, 93, 94, 95, 96, 97, 98, 99, 100, 101, 102, 103, 108, 109, 110, 111, 112, 113, 114, 115, 116, 117, 118, 119, 120, 121, 122, 123, 124, 125] (by decide +kernel) (by decide +kernel)
set_option maxRecDepth 20000 in
theorem gX4_floor_X4_harmOf : GoodIn wsX4_floor (wsV RX4 113 RX4 yX4_harmOf wsX4_harmOf) := goodIn_app (goodIn_of _ (by decide +kernel)) ggX4_floor_X4_harmOf
theorem dX4_floor_0 : decode cX4_floor 0 = .ok (.aload_n 0, 1) := by decide +kernel
theorem dX4_floor_1 : decode cX4_floor 1 = .ok (.getfield 10, 3) := by decide +kernel
theorem dX4_floor_4 : decode cX4_floor 4 = .ok (.iload_n 1, 1) := by decide +kernel
theorem dX4_floor_5 : decode cX4_floor 5 = .ok (.invokevirtual 68, 3) := by decide +kernel
theorem dX4_floor_8 : decode cX4_floor 8 = .ok (.ifCond .ne 6, 3) := by decide +kernel
theorem dX4_floor_11 : decode cX4_floor 11 = .ok (.ldc 85, 2) := by decide +kernel
theorem dX4_floor_13 : decode cX4_floor 13 = .ok (.ireturn, 1) := by decide +kernel
theorem dX4_floor_14 : decode cX4_floor 14 = .ok (.iload_n 2, 1) := by decide +kernel
theorem dX4_floor_15 : decode cX4_floor 15 = .ok (.tableswitch 176 0 10 #[57, 66, 76, 85, 99, 116, 129, 138, 147, 164, 170], 57) := by decide +kernel
theorem dX4_floor_72 : decode cX4_floor 72 = .ok (.aload_n 0, 1) := by decide +kernel
theorem dX4_floor_73 : decode cX4_floor 73 = .ok (.getfield 10, 3) := by decide +kernel
theorem dX4_floor_76 : decode cX4_floor 76 = .ok (.iload_n 1, 1) := by decide +kernel
theorem dX4_floor_77 : decode cX4_floor 77 = .ok (.invokevirtual 86, 3) := by decide +kernel
theorem dX4_floor_80 : decode cX4_floor 80 = .ok (.ireturn, 1) := by decide +kernel
theorem dX4_floor_81 : decode cX4_floor 81 = .ok (.aload_n 0, 1) := by decide +kernel
theorem dX4_floor_82 : decode cX4_floor 82 = .ok (.getfield 10, 3) := by decide +kernel
theorem dX4_floor_85 : decode cX4_floor 85 = .ok (.getfield 89, 3) := by decide +kernel
theorem dX4_floor_88 : decode cX4_floor 88 = .ok (.iload_n 1, 1) := by decide +kernel
theorem dX4_floor_89 : decode cX4_floor 89 = .ok (.iaload, 1) := by decide +kernel
theorem dX4_floor_90 : decode cX4_floor 90 = .ok (.ireturn, 1) := by decide +kernel
theorem dX4_floor_91 : decode cX4_floor 91 = .ok (.aload_n 0, 1) := by decide +kernel
theorem dX4_floor_92 : decode cX4_floor 92 = .ok (.getfield 10, 3) := by decide +kernel
theorem dX4_floor_95 : decode cX4_floor 95 = .ok (.iload_n 1, 1) := by decide +kernel
theorem dX4_floor_96 : decode cX4_floor 96 = .ok (.invokevirtual 92, 3) := by decide +kernel
theorem dX4_floor_99 : decode cX4_floor 99 = .ok (.ireturn, 1) := by decide +kernel
theorem dX4_floor_100 : decode cX4_floor 100 = .ok (.aload_n 0, 1) := by decide +kernel
theorem dX4_floor_101 : decode cX4_floor 101 = .ok (.getfield 10, 3) := by decide +kernel
theorem dX4_floor_104 : decode cX4_floor 104 = .ok (.getfield 95, 3) := by decide +kernel
theorem dX4_floor_107 : decode cX4_floor 107 = .ok (.iload_n 1, 1) := by decide +kernel
theorem dX4_floor_108 : decode cX4_floor 108 = .ok (.iaload, 1) := by decide +kernel
theorem dX4_floor_109 : decode cX4_floor 109 = .ok (.sipush 1000, 3) := by decide +kernel
theorem dX4_floor_112 : decode cX4_floor 112 = .ok (.iadd, 1) := by decide +kernel
theorem dX4_floor_113 : decode cX4_floor 113 = .ok (.ireturn, 1) := by decide +kernel
theorem dX4_floor_114 : decode cX4_floor 114 = .ok (.aload_n 0, 1) := by decide +kernel
theorem dX4_floor_115 : decode cX4_floor 115 = .ok (.getfield 10, 3) := by decide +kernel
theorem dX4_floor_118 : decode cX4_floor 118 = .ok (.iload_n 1, 1) := by decide +kernel
theorem dX4_floor_119 : decode cX4_floor 119 = .ok (.invokevirtual 98, 3) := by decide +kernel
theorem dX4_floor_122 : decode cX4_floor 122 = .ok (.ifCond .eq 7, 3) := by decide +kernel
theorem dX4_floor_125 : decode cX4_floor 125 = .ok (.iconst 1, 1) := by decide +kernel
theorem dX4_floor_126 : decode cX4_floor 126 = .ok (.goto 4, 3) := by decide +kernel
theorem dX4_floor_129 : decode cX4_floor 129 = .ok (.iconst 0, 1) := by decide +kernel
theorem dX4_floor_130 : decode cX4_floor 130 = .ok (.ireturn, 1) := by decide +kernel
theorem dX4_floor_131 : decode cX4_floor 131 = .ok (.aload_n 0, 1) := by decide +kernel
theorem dX4_floor_132 : decode cX4_floor 132 = .ok (.getfield 10, 3) := by decide +kernel
theorem dX4_floor_135 : decode cX4_floor 135 = .ok (.iload_n 1, 1) := by decide +kernel
theorem dX4_floor_136 : decode cX4_floor 136 = .ok (.invokevirtual 72, 3) := by decide +kernel
theorem dX4_floor_139 : decode cX4_floor 139 = .ok (.sipush 1000, 3) := by decide +kernel
theorem dX4_floor_142 : decode cX4_floor 142 = .ok (.iadd, 1) := by decide +kernel
theorem dX4_floor_143 : decode cX4_floor 143 = .ok (.ireturn, 1) := by decide +kernel
theorem dX4_floor_144 : decode cX4_floor 144 = .ok (.aload_n 0, 1) := by decide +kernel
theorem dX4_floor_145 : decode cX4_floor 145 = .ok (.getfield 10, 3) := by decide +kernel
theorem dX4_floor_148 : decode cX4_floor 148 = .ok (.iload_n 1, 1) := by decide +kernel
theorem dX4_floor_149 : decode cX4_floor 149 = .ok (.invokevirtual 101, 3) := by decide +kernel
theorem dX4_floor_152 : decode cX4_floor 152 = .ok (.ireturn, 1) := by decide +kernel
theorem dX4_floor_153 : decode cX4_floor 153 = .ok (.aload_n 0, 1) := by decide +kernel
theorem dX4_floor_154 : decode cX4_floor 154 = .ok (.getfield 10, 3) := by decide +kernel
theorem dX4_floor_157 : decode cX4_floor 157 = .ok (.iload_n 1, 1) := by decide +kernel
theorem dX4_floor_158 : decode cX4_floor 158 = .ok (.invokevirtual 104, 3) := by decide +kernel
theorem dX4_floor_161 : decode cX4_floor 161 = .ok (.ireturn, 1) := by decide +kernel
theorem dX4_floor_162 : decode cX4_floor 162 = .ok (.aload_n 0, 1) := by decide +kernel
theorem dX4_floor_163 : decode cX4_floor 163 = .ok (.getfield 10, 3) := by decide +kernel
theorem dX4_floor_166 : decode cX4_floor 166 = .ok (.iload_n 1, 1) := by decide +kernel
theorem dX4_floor_167 : decode cX4_floor 167 = .ok (.invokevirtual 107, 3) := by decide +kernel
theorem dX4_floor_170 : decode cX4_floor 170 = .ok (.ifCond .eq 7, 3) := by decide +kernel
theorem dX4_floor_173 : decode cX4_floor 173 = .ok (.iconst 1, 1) := by decide +kernel
theorem dX4_floor_174 : decode cX4_floor 174 = .ok (.goto 4, 3) := by decide +kernel
theorem dX4_floor_177 : decode cX4_floor 177 = .ok (.iconst 0, 1) := by decide +kernel
theorem dX4_floor_178 : decode cX4_floor 178 = .ok (.ireturn, 1) := by decide +kernel
theorem dX4_floor_179 : decode cX4_floor 179 = .ok (.aload_n 0, 1) := by decide +kernel
theorem dX4_floor_180 : decode cX4_floor 180 = .ok (.iload_n 1, 1) := by decide +kernel
theorem dX4_floor_181 : decode cX4_floor 181 = .ok (.invokevirtual 110, 3) := by decide +kernel
theorem dX4_floor_184 : decode cX4_floor 184 = .ok (.ireturn, 1) := by decide +kernel
theorem dX4_floor_185 : decode cX4_floor 185 = .ok (.aload_n 0, 1) := by decide +kernel
theorem dX4_floor_186 : decode cX4_floor 186 = .ok (.iload_n 1, 1) := by decide +kernel
theorem dX4_floor_187 : decode cX4_floor 187 = .ok (.invokevirtual 113, 3) := by decide +kernel
theorem dX4_floor_190 : decode cX4_floor 190 = .ok (.ireturn, 1) := by decide +kernel
theorem dX4_floor_191 : decode cX4_floor 191 = .ok (.ldc 84, 2) := by decide +kernel
theorem dX4_floor_193 : decode cX4_floor 193 = .ok (.ireturn, 1) := by decide +kernel
set_option maxRecDepth 20000 in
theorem ggX4_hundredths_X4_percentAt : GoodIn wsX4_hundredths wsX4_percentAt := goodIn_r _ [5, 6, 7] (by decide +kernel) (by decide +kernel)
set_option maxRecDepth 20000 in
theorem gX4_hundredths_X4_percentAt : GoodIn wsX4_hundredths (va_wsS RX4 116 yX4_percentAt wsX4_percentAt) := goodIn_app (goodIn_of _ (by decide +kernel)) ggX4_hundredths_X4_percentAt
theorem dX4_hundredths_0 : decode cX4_hundredths 0 = .ok (.iload_n 1, 1) := by decide +kernel
theorem dX4_hundredths_1 : decode cX4_hundredths 1 = .ok (.ifCond .lt 19, 3) := by decide +kernel
theorem dX4_hundredths_4 : decode cX4_hundredths 4 = .ok (.iload_n 1, 1) := by decide +kernel
theorem dX4_hundredths_5 : decode cX4_hundredths 5 = .ok (.iconst 2, 1) := by decide +kernel
theorem dX4_hundredths_6 : decode cX4_hundredths 6 = .ok (.if_icmp .gt 14, 3) := by decide +kernel
theorem dX4_hundredths_9 : decode cX4_hundredths 9 = .ok (.iload_n 2, 1) := by decide +kernel
theorem dX4_hundredths_10 : decode cX4_hundredths 10 = .ok (.ifCond .lt 10, 3) := by decide +kernel
theorem dX4_hundredths_13 : decode cX4_hundredths 13 = .ok (.iload_n 2, 1) := by decide +kernel
theorem dX4_hundredths_14 : decode cX4_hundredths 14 = .ok (.sipush 999, 3) := by decide +kernel
theorem dX4_hundredths_17 : decode cX4_hundredths 17 = .ok (.if_icmp .le 6, 3) := by decide +kernel
theorem dX4_hundredths_20 : decode cX4_hundredths 20 = .ok (.ldc 84, 2) := by decide +kernel
theorem dX4_hundredths_22 : decode cX4_hundredths 22 = .ok (.ireturn, 1) := by decide +kernel
theorem dX4_hundredths_23 : decode cX4_hundredths 23 = .ok (.iload_n 1, 1) := by decide +kernel
theorem dX4_hundredths_24 : decode cX4_hundredths 24 = .ok (.iload_n 2, 1) := by decide +kernel
theorem dX4_hundredths_25 : decode cX4_hundredths 25 = .ok (.invokestatic 116, 3) := by decide +kernel
theorem dX4_hundredths_28 : decode cX4_hundredths 28 = .ok (.ireturn, 1) := by decide +kernel
set_option maxRecDepth 20000 in
theorem ggX4_would_X3_has : GoodIn wsX4_would wsX3_has := goodIn_r _ [9, 10, 95, 96, 97, 98, 99, 100, 101, 102] (by decide +kernel) (by decide +kernel)
set_option maxRecDepth 20000 in
theorem gX4_would_X3_has : GoodIn wsX4_would (wsV RX4 68 RX3 yX3_has wsX3_has) := goodIn_app (goodIn_of _ (by decide +kernel)) ggX4_would_X3_has
set_option maxRecDepth 20000 in
theorem ggX4_would_X3_isPropped : GoodIn wsX4_would wsX3_isPropped := goodIn_r _ [14, 15, 95, 96, 97, 98, 99, 100, 101, 102] (by decide +kernel) (by decide +kernel)
set_option maxRecDepth 20000 in
theorem gX4_would_X3_isPropped : GoodIn wsX4_would (wsV RX4 98 RX3 yX3_isPropped wsX3_isPropped) := goodIn_app (goodIn_of _ (by decide +kernel)) ggX4_would_X3_isPropped
set_option maxRecDepth 20000 in
theorem ggX4_would_X4_tryStrike : GoodIn wsX4_would wsX4_tryStrike := goodIn_r _ [20, 1, 3, 21, 5, 6, 7, 8, 9, 10, 11, 12, 13, 14, 15, 22, 23, 24, 25, 26, 27, 28, 29, 30, 31, 32, 33, 34, 35, 36, 37, 38, 39, 40, 41, 42, 43, 44, 45, 46, 47, 48, 49, 50, 51, 52, 53, 54, 55, 56, 57, 58, 59, 60, 61, 62, 63, 64, 65, 66, 67, 68, 69, 19, 70, 71, 72, 73, 74, 75, 76, 77, 78, 79, 80, 81, 82, 83, 84, 85, 86, 87, 88, 89, 90, 91, 92, 93, 94, 95, 96, 97, 98, 99, 100, 101, 102] (by decide +kernel) (by decide +kernel)
set_option maxRecDepth 20000 in
theorem gX4_would_X4_tryStrike : GoodIn wsX4_would (wsV RX4 120 RX4 yX4_tryStrike wsX4_tryStrike) := goodIn_app (goodIn_of _ (by decide +kernel)) ggX4_would_X4_tryStrike
theorem dX4_would_0 : decode cX4_would 0 = .ok (.aload_n 0, 1) := by decide +kernel
theorem dX4_would_1 : decode cX4_would 1 = .ok (.getfield 10, 3) := by decide +kernel
theorem dX4_would_4 : decode cX4_would 4 = .ok (.iload_n 1, 1) := by decide +kernel
theorem dX4_would_5 : decode cX4_would 5 = .ok (.invokevirtual 68, 3) := by decide +kernel
theorem dX4_would_8 : decode cX4_would 8 = .ok (.ifCond .eq 25, 3) := by decide +kernel
theorem dX4_would_11 : decode cX4_would 11 = .ok (.aload_n 0, 1) := by decide +kernel
theorem dX4_would_12 : decode cX4_would 12 = .ok (.getfield 10, 3) := by decide +kernel
theorem dX4_would_15 : decode cX4_would 15 = .ok (.iload_n 2, 1) := by decide +kernel
theorem dX4_would_16 : decode cX4_would 16 = .ok (.invokevirtual 68, 3) := by decide +kernel
theorem dX4_would_19 : decode cX4_would 19 = .ok (.ifCond .eq 14, 3) := by decide +kernel
theorem dX4_would_22 : decode cX4_would 22 = .ok (.aload_n 0, 1) := by decide +kernel
theorem dX4_would_23 : decode cX4_would 23 = .ok (.getfield 10, 3) := by decide +kernel
theorem dX4_would_26 : decode cX4_would 26 = .ok (.iload_n 1, 1) := by decide +kernel
theorem dX4_would_27 : decode cX4_would 27 = .ok (.invokevirtual 98, 3) := by decide +kernel
theorem dX4_would_30 : decode cX4_would 30 = .ok (.ifCond .ne 6, 3) := by decide +kernel
theorem dX4_would_33 : decode cX4_would 33 = .ok (.ldc 85, 2) := by decide +kernel
theorem dX4_would_35 : decode cX4_would 35 = .ok (.ireturn, 1) := by decide +kernel
theorem dX4_would_36 : decode cX4_would 36 = .ok (.aload_n 0, 1) := by decide +kernel
theorem dX4_would_37 : decode cX4_would 37 = .ok (.iload_n 1, 1) := by decide +kernel
theorem dX4_would_38 : decode cX4_would 38 = .ok (.iconst 0, 1) := by decide +kernel
theorem dX4_would_39 : decode cX4_would 39 = .ok (.invokevirtual 120, 3) := by decide +kernel
theorem dX4_would_42 : decode cX4_would 42 = .ok (.pop, 1) := by decide +kernel
theorem dX4_would_43 : decode cX4_would 43 = .ok (.aload_n 0, 1) := by decide +kernel
theorem dX4_would_44 : decode cX4_would 44 = .ok (.getfield 16, 3) := by decide +kernel
theorem dX4_would_47 : decode cX4_would 47 = .ok (.getfield 95, 3) := by decide +kernel
theorem dX4_would_50 : decode cX4_would 50 = .ok (.iload_n 2, 1) := by decide +kernel
theorem dX4_would_51 : decode cX4_would 51 = .ok (.iaload, 1) := by decide +kernel
theorem dX4_would_52 : decode cX4_would 52 = .ok (.sipush 1000, 3) := by decide +kernel
theorem dX4_would_55 : decode cX4_would 55 = .ok (.iadd, 1) := by decide +kernel
theorem dX4_would_56 : decode cX4_would 56 = .ok (.ireturn, 1) := by decide +kernel
set_option maxRecDepth 20000 in
theorem ggX4_cycle_X4_cycleHolds : GoodIn wsX4_cycle wsX4_cycleHolds := goodIn_r _ [6, 7, 8, 9, 10, 11, 12, 13, 14, 15, 16, 17, 18, 19, 20, 21, 22, 23, 24, 25, 26, 27, 28, 29, 30, 31, 32, 33, 34, 35, 36, 37, 38, 39, 40, 41, 42, 43, 44, 45, 46, 47, 48, 49, 50, 51, 52, 53, 54, 55, 56, 57, 58, 59, 60, 61, 62, 63, 64, 65, 66, 67, 68, 69, 70, 71, 72, 73, 74, 75, 76, 77, 78, 79, 80, 81, 82, 5, 83, 84, 85, 86, 87, 88, 89, 90, 91, 92, 93, 94, 95, 96, 97, 98, 99, 100, 101, 102, 103, 104, 105, 106, 107, 108, 109, 110, 111, 112, 113, 114, 115, 116, 117, 118, 119, 120, 121, 122, 123] (by decide +kernel) (by decide +kernel)
set_option maxRecDepth 20000 in
theorem gX4_cycle_X4_cycleHolds : GoodIn wsX4_cycle (wsV RX4 124 RX4 yX4_cycleHolds wsX4_cycleHolds) := goodIn_app (goodIn_of _ (by decide +kernel)) ggX4_cycle_X4_cycleHolds
theorem dX4_cycle_0 : decode cX4_cycle 0 = .ok (.iload_n 1, 1) := by decide +kernel
theorem dX4_cycle_1 : decode cX4_cycle 1 = .ok (.iconst 1, 1) := by decide +kernel
theorem dX4_cycle_2 : decode cX4_cycle 2 = .ok (.if_icmp .lt 8, 3) := by decide +kernel
theorem dX4_cycle_5 : decode cX4_cycle 5 = .ok (.iload_n 1, 1) := by decide +kernel
theorem dX4_cycle_6 : decode cX4_cycle 6 = .ok (.iconst 3, 1) := by decide +kernel
theorem dX4_cycle_7 : decode cX4_cycle 7 = .ok (.if_icmp .le 6, 3) := by decide +kernel
theorem dX4_cycle_10 : decode cX4_cycle 10 = .ok (.ldc 84, 2) := by decide +kernel
theorem dX4_cycle_12 : decode cX4_cycle 12 = .ok (.ireturn, 1) := by decide +kernel
theorem dX4_cycle_13 : decode cX4_cycle 13 = .ok (.iconst 1, 1) := by decide +kernel
theorem dX4_cycle_14 : decode cX4_cycle 14 = .ok (.istore_n 2, 1) := by decide +kernel
theorem dX4_cycle_15 : decode cX4_cycle 15 = .ok (.iload_n 2, 1) := by decide +kernel
theorem dX4_cycle_16 : decode cX4_cycle 16 = .ok (.bipush 28, 2) := by decide +kernel
theorem dX4_cycle_18 : decode cX4_cycle 18 = .ok (.if_icmp .gt 20, 3) := by decide +kernel
theorem dX4_cycle_21 : decode cX4_cycle 21 = .ok (.aload_n 0, 1) := by decide +kernel
theorem dX4_cycle_22 : decode cX4_cycle 22 = .ok (.iload_n 1, 1) := by decide +kernel
theorem dX4_cycle_23 : decode cX4_cycle 23 = .ok (.iload_n 2, 1) := by decide +kernel
theorem dX4_cycle_24 : decode cX4_cycle 24 = .ok (.invokevirtual 124, 3) := by decide +kernel
theorem dX4_cycle_27 : decode cX4_cycle 27 = .ok (.ifCond .eq 5, 3) := by decide +kernel
theorem dX4_cycle_30 : decode cX4_cycle 30 = .ok (.iload_n 2, 1) := by decide +kernel
theorem dX4_cycle_31 : decode cX4_cycle 31 = .ok (.ireturn, 1) := by decide +kernel
theorem dX4_cycle_32 : decode cX4_cycle 32 = .ok (.iinc 2 1, 3) := by decide +kernel
theorem dX4_cycle_35 : decode cX4_cycle 35 = .ok (.goto (-20), 3) := by decide +kernel
theorem dX4_cycle_38 : decode cX4_cycle 38 = .ok (.iconst (-1), 1) := by decide +kernel
theorem dX4_cycle_39 : decode cX4_cycle 39 = .ok (.ireturn, 1) := by decide +kernel
set_option maxRecDepth 20000 in
theorem ggX4_days_X2_note : GoodIn wsX4_days wsX2_note := goodIn_r _ [9, 10, 11, 12, 13, 14, 15, 16, 17, 18, 19, 20, 21, 22, 23, 24, 25, 26, 27, 28, 43, 44, 45, 35, 36, 37, 38, 39, 40, 41, 42] (by decide +kernel) (by decide +kernel)
set_option maxRecDepth 20000 in
theorem gX4_days_X2_note : GoodIn wsX4_days (wsV RX4 127 RX2 yX2_note wsX2_note) := goodIn_app (goodIn_of _ (by decide +kernel)) ggX4_days_X2_note
theorem dX4_days_0 : decode cX4_days 0 = .ok (.iload_n 1, 1) := by decide +kernel
theorem dX4_days_1 : decode cX4_days 1 = .ok (.iconst 1, 1) := by decide +kernel
theorem dX4_days_2 : decode cX4_days 2 = .ok (.if_icmp .lt 9, 3) := by decide +kernel
theorem dX4_days_5 : decode cX4_days 5 = .ok (.iload_n 1, 1) := by decide +kernel
theorem dX4_days_6 : decode cX4_days 6 = .ok (.bipush 60, 2) := by decide +kernel
theorem dX4_days_8 : decode cX4_days 8 = .ok (.if_icmp .le 6, 3) := by decide +kernel
theorem dX4_days_11 : decode cX4_days 11 = .ok (.ldc 84, 2) := by decide +kernel
theorem dX4_days_13 : decode cX4_days 13 = .ok (.ireturn, 1) := by decide +kernel
theorem dX4_days_14 : decode cX4_days 14 = .ok (.aload_n 0, 1) := by decide +kernel
theorem dX4_days_15 : decode cX4_days 15 = .ok (.getfield 22, 3) := by decide +kernel
theorem dX4_days_18 : decode cX4_days 18 = .ok (.aload_n 0, 1) := by decide +kernel
theorem dX4_days_19 : decode cX4_days 19 = .ok (.getfield 10, 3) := by decide +kernel
theorem dX4_days_22 : decode cX4_days 22 = .ok (.invokevirtual 127, 3) := by decide +kernel
theorem dX4_days_25 : decode cX4_days 25 = .ok (.aload_n 0, 1) := by decide +kernel
theorem dX4_days_26 : decode cX4_days 26 = .ok (.getfield 10, 3) := by decide +kernel
theorem dX4_days_29 : decode cX4_days 29 = .ok (.dup, 1) := by decide +kernel
theorem dX4_days_30 : decode cX4_days 30 = .ok (.getfield 44, 3) := by decide +kernel
theorem dX4_days_33 : decode cX4_days 33 = .ok (.iload_n 1, 1) := by decide +kernel
theorem dX4_days_34 : decode cX4_days 34 = .ok (.iadd, 1) := by decide +kernel
theorem dX4_days_35 : decode cX4_days 35 = .ok (.putfield 44, 3) := by decide +kernel
theorem dX4_days_38 : decode cX4_days 38 = .ok (.aload_n 0, 1) := by decide +kernel
theorem dX4_days_39 : decode cX4_days 39 = .ok (.getfield 10, 3) := by decide +kernel
theorem dX4_days_42 : decode cX4_days 42 = .ok (.getfield 44, 3) := by decide +kernel
theorem dX4_days_45 : decode cX4_days 45 = .ok (.ireturn, 1) := by decide +kernel
set_option maxRecDepth 20000 in
theorem ggX4_pour_X4_tryPour : GoodIn wsX4_pour wsX4_tryPour := goodIn_r _ [11, 1, 2, 6, 12, 13, 14, 15, 16, 17, 18, 19, 20, 21, 22, 23, 24, 25, 26, 27, 28, 29, 30, 31, 32, 33, 34, 35, 36, 37, 38, 39, 40, 41, 42, 43, 44, 45, 46, 47, 48, 49, 50, 51, 52, 53, 54, 55, 56, 57, 58, 59, 60, 61, 62, 63, 64, 10, 65, 66, 67, 68, 69, 70, 71, 72, 73, 74, 75, 76, 77, 78, 79, 80, 81, 82, 83, 94, 95, 96, 97, 98, 99, 100, 101, 102, 103, 104, 105, 106, 107] (by decide +kernel) (by decide +kernel)
set_option maxRecDepth 20000 in
theorem gX4_pour_X4_tryPour : GoodIn wsX4_pour (wsV RX4 132 RX4 yX4_tryPour wsX4_tryPour) := goodIn_app (goodIn_of _ (by decide +kernel)) ggX4_pour_X4_tryPour
set_option maxRecDepth 20000 in
theorem ggX4_pour_X2_note : GoodIn wsX4_pour wsX2_note := goodIn_r _ [88, 89, 90, 91, 92, 38, 39, 40, 93, 13, 14, 15, 16, 17, 18, 19, 20, 21, 22, 23, 108, 109, 110, 100, 101, 102, 103, 104, 105, 106, 107] (by decide +kernel) (by decide +kernel)
set_option maxRecDepth 20000 in
theorem gX4_pour_X2_note : GoodIn wsX4_pour (wsV RX4 127 RX2 yX2_note wsX2_note) := goodIn_app (goodIn_of _ (by decide +kernel)) ggX4_pour_X2_note
set_option maxRecDepth 20000 in
theorem ggX4_pour_X3_copyFrom : GoodIn wsX4_pour wsX3_copyFrom := goodIn_r _ [16, 17, 18, 19, 20, 21, 22, 23, 100, 101, 102, 103, 104, 105, 106, 107] (by decide +kernel) (by decide +kernel)
set_option maxRecDepth 20000 in
theorem gX4_pour_X3_copyFrom : GoodIn wsX4_pour (wsV RX4 136 RX3 yX3_copyFrom wsX3_copyFrom) := goodIn_app (goodIn_of _ (by decide +kernel)) ggX4_pour_X3_copyFrom
theorem dX4_pour_0 : decode cX4_pour 0 = .ok (.aload_n 0, 1) := by decide +kernel
theorem dX4_pour_1 : decode cX4_pour 1 = .ok (.getfield 10, 3) := by decide +kernel
theorem dX4_pour_4 : decode cX4_pour 4 = .ok (.getfield 47, 3) := by decide +kernel
theorem dX4_pour_7 : decode cX4_pour 7 = .ok (.bipush 8, 2) := by decide +kernel
theorem dX4_pour_9 : decode cX4_pour 9 = .ok (.if_icmp .lt 6, 3) := by decide +kernel
theorem dX4_pour_12 : decode cX4_pour 12 = .ok (.ldc 131, 2) := by decide +kernel
theorem dX4_pour_14 : decode cX4_pour 14 = .ok (.ireturn, 1) := by decide +kernel
theorem dX4_pour_15 : decode cX4_pour 15 = .ok (.aload_n 0, 1) := by decide +kernel
theorem dX4_pour_16 : decode cX4_pour 16 = .ok (.invokevirtual 132, 3) := by decide +kernel
theorem dX4_pour_19 : decode cX4_pour 19 = .ok (.ifCond .ne 6, 3) := by decide +kernel
theorem dX4_pour_22 : decode cX4_pour 22 = .ok (.ldc 135, 2) := by decide +kernel
theorem dX4_pour_24 : decode cX4_pour 24 = .ok (.ireturn, 1) := by decide +kernel
theorem dX4_pour_25 : decode cX4_pour 25 = .ok (.aload_n 0, 1) := by decide +kernel
theorem dX4_pour_26 : decode cX4_pour 26 = .ok (.getfield 22, 3) := by decide +kernel
theorem dX4_pour_29 : decode cX4_pour 29 = .ok (.aload_n 0, 1) := by decide +kernel
theorem dX4_pour_30 : decode cX4_pour 30 = .ok (.getfield 10, 3) := by decide +kernel
theorem dX4_pour_33 : decode cX4_pour 33 = .ok (.invokevirtual 127, 3) := by decide +kernel
theorem dX4_pour_36 : decode cX4_pour 36 = .ok (.aload_n 0, 1) := by decide +kernel
theorem dX4_pour_37 : decode cX4_pour 37 = .ok (.getfield 10, 3) := by decide +kernel
theorem dX4_pour_40 : decode cX4_pour 40 = .ok (.aload_n 0, 1) := by decide +kernel
theorem dX4_pour_41 : decode cX4_pour 41 = .ok (.getfield 16, 3) := by decide +kernel
theorem dX4_pour_44 : decode cX4_pour 44 = .ok (.invokevirtual 136, 3) := by decide +kernel
theorem dX4_pour_47 : decode cX4_pour 47 = .ok (.aload_n 0, 1) := by decide +kernel
theorem dX4_pour_48 : decode cX4_pour 48 = .ok (.getfield 10, 3) := by decide +kernel
theorem dX4_pour_51 : decode cX4_pour 51 = .ok (.getfield 47, 3) := by decide +kernel
theorem dX4_pour_54 : decode cX4_pour 54 = .ok (.iconst 1, 1) := by decide +kernel
theorem dX4_pour_55 : decode cX4_pour 55 = .ok (.isub, 1) := by decide +kernel
theorem dX4_pour_56 : decode cX4_pour 56 = .ok (.ireturn, 1) := by decide +kernel
set_option maxRecDepth 20000 in
theorem ggX4_strike_X3_has : GoodIn wsX4_strike wsX3_has := goodIn_r _ [10, 11, 107, 108, 109, 110, 111, 112, 113, 114] (by decide +kernel) (by decide +kernel)
set_option maxRecDepth 20000 in
theorem gX4_strike_X3_has : GoodIn wsX4_strike (wsV RX4 68 RX3 yX3_has wsX3_has) := goodIn_app (goodIn_of _ (by decide +kernel)) ggX4_strike_X3_has
set_option maxRecDepth 20000 in
theorem ggX4_strike_X4_tryStrike : GoodIn wsX4_strike wsX4_tryStrike := goodIn_r _ [16, 1, 5, 17, 6, 7, 8, 9, 10, 11, 18, 19, 20, 21, 22, 23, 24, 25, 26, 27, 28, 29, 30, 31, 32, 33, 34, 35, 36, 37, 38, 39, 40, 41, 42, 43, 44, 45, 46, 47, 48, 49, 50, 51, 52, 53, 54, 55, 56, 57, 58, 59, 60, 61, 62, 63, 64, 65, 66, 67, 68, 69, 70, 15, 71, 72, 73, 74, 75, 76, 77, 78, 79, 80, 81, 82, 83, 84, 85, 86, 87, 88, 89, 101, 102, 103, 104, 105, 106, 107, 108, 109, 110, 111, 112, 113, 114] (by decide +kernel) (by decide +kernel)
set_option maxRecDepth 20000 in
theorem gX4_strike_X4_tryStrike : GoodIn wsX4_strike (wsV RX4 120 RX4 yX4_tryStrike wsX4_tryStrike) := goodIn_app (goodIn_of _ (by decide +kernel)) ggX4_strike_X4_tryStrike
set_option maxRecDepth 20000 in
theorem ggX4_strike_X2_note : GoodIn wsX4_strike wsX2_note := goodIn_r _ [94, 95, 96, 97, 98, 52, 53, 54, 99, 24, 25, 9, 26, 27, 11, 28, 29, 30, 31, 22, 115, 116, 117, 107, 108, 109, 110, 111, 112, 113, 114] (by decide +kernel) (by decide +kernel)
set_option maxRecDepth 20000 in
theorem gX4_strike_X2_note : GoodIn wsX4_strike (wsV RX4 127 RX2 yX2_note wsX2_note) := goodIn_app (goodIn_of _ (by decide +kernel)) ggX4_strike_X2_note
set_option maxRecDepth 20000 in
theorem ggX4_strike_X3_copyFrom : GoodIn wsX4_strike wsX3_copyFrom := goodIn_r _ [26, 27, 11, 28, 29, 30, 31, 22, 107, 108, 109, 110, 111, 112, 113, 114] (by decide +kernel) (by decide +kernel)
set_option maxRecDepth 20000 in
theorem gX4_strike_X3_copyFrom : GoodIn wsX4_strike (wsV RX4 136 RX3 yX3_copyFrom wsX3_copyFrom) := goodIn_app (goodIn_of _ (by decide +kernel)) ggX4_strike_X3_copyFrom
set_option maxRecDepth 20000 in
theorem ggX4_strike_X3_lowestOf : GoodIn wsX4_strike wsX3_lowestOf := goodIn_r _ [61, 41, 19, 20, 9, 21, 22, 107, 108, 109, 110, 111, 112, 113, 114] (by decide +kernel) (by decide +kernel)
set_option maxRecDepth 20000 in
theorem gX4_strike_X3_lowestOf : GoodIn wsX4_strike (wsV RX4 101 RX3 yX3_lowestOf wsX3_lowestOf) := goodIn_app (goodIn_of _ (by decide +kernel)) ggX4_strike_X3_lowestOf
theorem dX4_strike_0 : decode cX4_strike 0 = .ok (.aload_n 0, 1) := by decide +kernel
theorem dX4_strike_1 : decode cX4_strike 1 = .ok (.getfield 10, 3) := by decide +kernel
theorem dX4_strike_4 : decode cX4_strike 4 = .ok (.iload_n 1, 1) := by decide +kernel
theorem dX4_strike_5 : decode cX4_strike 5 = .ok (.invokevirtual 68, 3) := by decide +kernel
theorem dX4_strike_8 : decode cX4_strike 8 = .ok (.ifCond .ne 6, 3) := by decide +kernel
theorem dX4_strike_11 : decode cX4_strike 11 = .ok (.ldc 85, 2) := by decide +kernel
theorem dX4_strike_13 : decode cX4_strike 13 = .ok (.ireturn, 1) := by decide +kernel
theorem dX4_strike_14 : decode cX4_strike 14 = .ok (.aload_n 0, 1) := by decide +kernel
theorem dX4_strike_15 : decode cX4_strike 15 = .ok (.iload_n 1, 1) := by decide +kernel
theorem dX4_strike_16 : decode cX4_strike 16 = .ok (.iconst 0, 1) := by decide +kernel
theorem dX4_strike_17 : decode cX4_strike 17 = .ok (.invokevirtual 120, 3) := by decide +kernel
theorem dX4_strike_20 : decode cX4_strike 20 = .ok (.ifCond .ne 6, 3) := by decide +kernel
theorem dX4_strike_23 : decode cX4_strike 23 = .ok (.ldc 135, 2) := by decide +kernel
theorem dX4_strike_25 : decode cX4_strike 25 = .ok (.ireturn, 1) := by decide +kernel
theorem dX4_strike_26 : decode cX4_strike 26 = .ok (.aload_n 0, 1) := by decide +kernel
theorem dX4_strike_27 : decode cX4_strike 27 = .ok (.getfield 22, 3) := by decide +kernel
theorem dX4_strike_30 : decode cX4_strike 30 = .ok (.aload_n 0, 1) := by decide +kernel
theorem dX4_strike_31 : decode cX4_strike 31 = .ok (.getfield 10, 3) := by decide +kernel
theorem dX4_strike_34 : decode cX4_strike 34 = .ok (.invokevirtual 127, 3) := by decide +kernel
theorem dX4_strike_37 : decode cX4_strike 37 = .ok (.aload_n 0, 1) := by decide +kernel
theorem dX4_strike_38 : decode cX4_strike 38 = .ok (.getfield 10, 3) := by decide +kernel
theorem dX4_strike_41 : decode cX4_strike 41 = .ok (.aload_n 0, 1) := by decide +kernel
theorem dX4_strike_42 : decode cX4_strike 42 = .ok (.getfield 16, 3) := by decide +kernel
theorem dX4_strike_45 : decode cX4_strike 45 = .ok (.invokevirtual 136, 3) := by decide +kernel
theorem dX4_strike_48 : decode cX4_strike 48 = .ok (.aload_n 0, 1) := by decide +kernel
theorem dX4_strike_49 : decode cX4_strike 49 = .ok (.getfield 10, 3) := by decide +kernel
theorem dX4_strike_52 : decode cX4_strike 52 = .ok (.iload_n 1, 1) := by decide +kernel
theorem dX4_strike_53 : decode cX4_strike 53 = .ok (.invokevirtual 101, 3) := by decide +kernel
theorem dX4_strike_56 : decode cX4_strike 56 = .ok (.ireturn, 1) := by decide +kernel
set_option maxRecDepth 20000 in
theorem ggX4_back_X3_has : GoodIn wsX4_back wsX3_has := goodIn_r _ [9, 10, 52, 53, 54, 55, 56, 57, 58, 59] (by decide +kernel) (by decide +kernel)
set_option maxRecDepth 20000 in
theorem gX4_back_X3_has : GoodIn wsX4_back (wsV RX4 68 RX3 yX3_has wsX3_has) := goodIn_app (goodIn_of _ (by decide +kernel)) ggX4_back_X3_has
set_option maxRecDepth 20000 in
theorem ggX4_back_X3_isPropped : GoodIn wsX4_back wsX3_isPropped := goodIn_r _ [14, 15, 52, 53, 54, 55, 56, 57, 58, 59] (by decide +kernel) (by decide +kernel)
set_option maxRecDepth 20000 in
theorem gX4_back_X3_isPropped : GoodIn wsX4_back (wsV RX4 98 RX3 yX3_isPropped wsX3_isPropped) := goodIn_app (goodIn_of _ (by decide +kernel)) ggX4_back_X3_isPropped
set_option maxRecDepth 20000 in
theorem ggX4_back_X2_note : GoodIn wsX4_back wsX2_note := goodIn_r _ [20, 21, 22, 23, 24, 25, 26, 27, 28, 29, 30, 8, 31, 32, 10, 33, 34, 35, 36, 15, 60, 61, 62, 52, 53, 54, 55, 56, 57, 58, 59] (by decide +kernel) (by decide +kernel)
set_option maxRecDepth 20000 in
theorem gX4_back_X2_note : GoodIn wsX4_back (wsV RX4 127 RX2 yX2_note wsX2_note) := goodIn_app (goodIn_of _ (by decide +kernel)) ggX4_back_X2_note
set_option maxRecDepth 20000 in
theorem ggX4_back_X3_putProps : GoodIn wsX4_back wsX3_putProps := goodIn_r _ [40, 15, 52, 53, 54, 55, 56, 57, 58, 59] (by decide +kernel) (by decide +kernel)
set_option maxRecDepth 20000 in
theorem gX4_back_X3_putProps : GoodIn wsX4_back (wsV RX4 139 RX3 yX3_putProps wsX3_putProps) := goodIn_app (goodIn_of _ (by decide +kernel)) ggX4_back_X3_putProps
set_option maxRecDepth 20000 in
theorem ggX4_back_X3_lowestOf : GoodIn wsX4_back wsX3_lowestOf := goodIn_r _ [44, 45, 12, 13, 8, 14, 15, 52, 53, 54, 55, 56, 57, 58, 59] (by decide +kernel) (by decide +kernel)
set_option maxRecDepth 20000 in
theorem gX4_back_X3_lowestOf : GoodIn wsX4_back (wsV RX4 101 RX3 yX3_lowestOf wsX3_lowestOf) := goodIn_app (goodIn_of _ (by decide +kernel)) ggX4_back_X3_lowestOf
theorem dX4_back_0 : decode cX4_back 0 = .ok (.aload_n 0, 1) := by decide +kernel
theorem dX4_back_1 : decode cX4_back 1 = .ok (.getfield 10, 3) := by decide +kernel
theorem dX4_back_4 : decode cX4_back 4 = .ok (.iload_n 1, 1) := by decide +kernel
theorem dX4_back_5 : decode cX4_back 5 = .ok (.invokevirtual 68, 3) := by decide +kernel
theorem dX4_back_8 : decode cX4_back 8 = .ok (.ifCond .ne 6, 3) := by decide +kernel
theorem dX4_back_11 : decode cX4_back 11 = .ok (.ldc 85, 2) := by decide +kernel
theorem dX4_back_13 : decode cX4_back 13 = .ok (.ireturn, 1) := by decide +kernel
theorem dX4_back_14 : decode cX4_back 14 = .ok (.aload_n 0, 1) := by decide +kernel
theorem dX4_back_15 : decode cX4_back 15 = .ok (.getfield 10, 3) := by decide +kernel
theorem dX4_back_18 : decode cX4_back 18 = .ok (.iload_n 1, 1) := by decide +kernel
theorem dX4_back_19 : decode cX4_back 19 = .ok (.invokevirtual 98, 3) := by decide +kernel
theorem dX4_back_22 : decode cX4_back 22 = .ok (.ifCond .eq 6, 3) := by decide +kernel
theorem dX4_back_25 : decode cX4_back 25 = .ok (.ldc 135, 2) := by decide +kernel
theorem dX4_back_27 : decode cX4_back 27 = .ok (.ireturn, 1) := by decide +kernel
theorem dX4_back_28 : decode cX4_back 28 = .ok (.aload_n 0, 1) := by decide +kernel
theorem dX4_back_29 : decode cX4_back 29 = .ok (.getfield 22, 3) := by decide +kernel
theorem dX4_back_32 : decode cX4_back 32 = .ok (.aload_n 0, 1) := by decide +kernel
theorem dX4_back_33 : decode cX4_back 33 = .ok (.getfield 10, 3) := by decide +kernel
theorem dX4_back_36 : decode cX4_back 36 = .ok (.invokevirtual 127, 3) := by decide +kernel
theorem dX4_back_39 : decode cX4_back 39 = .ok (.aload_n 0, 1) := by decide +kernel
theorem dX4_back_40 : decode cX4_back 40 = .ok (.getfield 10, 3) := by decide +kernel
theorem dX4_back_43 : decode cX4_back 43 = .ok (.iload_n 1, 1) := by decide +kernel
theorem dX4_back_44 : decode cX4_back 44 = .ok (.invokevirtual 139, 3) := by decide +kernel
theorem dX4_back_47 : decode cX4_back 47 = .ok (.aload_n 0, 1) := by decide +kernel
theorem dX4_back_48 : decode cX4_back 48 = .ok (.getfield 10, 3) := by decide +kernel
theorem dX4_back_51 : decode cX4_back 51 = .ok (.iload_n 1, 1) := by decide +kernel
theorem dX4_back_52 : decode cX4_back 52 = .ok (.invokevirtual 101, 3) := by decide +kernel
theorem dX4_back_55 : decode cX4_back 55 = .ok (.ireturn, 1) := by decide +kernel
set_option maxRecDepth 20000 in
theorem ggX4_slow_X3_has : GoodIn wsX4_slow wsX3_has := goodIn_r _ [10, 11, 40, 41, 42, 43, 44, 45, 46, 47] (by decide +kernel) (by decide +kernel)
set_option maxRecDepth 20000 in
theorem gX4_slow_X3_has : GoodIn wsX4_slow (wsV RX4 68 RX3 yX3_has wsX3_has) := goodIn_app (goodIn_of _ (by decide +kernel)) ggX4_slow_X3_has
set_option maxRecDepth 20000 in
theorem ggX4_slow_X2_note : GoodIn wsX4_slow wsX2_note := goodIn_r _ [16, 17, 18, 19, 20, 21, 22, 23, 24, 25, 26, 9, 27, 28, 11, 29, 30, 31, 32, 33, 48, 49, 50, 40, 41, 42, 43, 44, 45, 46, 47] (by decide +kernel) (by decide +kernel)
set_option maxRecDepth 20000 in
theorem gX4_slow_X2_note : GoodIn wsX4_slow (wsV RX4 127 RX2 yX2_note wsX2_note) := goodIn_app (goodIn_of _ (by decide +kernel)) ggX4_slow_X2_note
theorem dX4_slow_0 : decode cX4_slow 0 = .ok (.aload_n 0, 1) := by decide +kernel
theorem dX4_slow_1 : decode cX4_slow 1 = .ok (.getfield 10, 3) := by decide +kernel
theorem dX4_slow_4 : decode cX4_slow 4 = .ok (.iload_n 1, 1) := by decide +kernel
theorem dX4_slow_5 : decode cX4_slow 5 = .ok (.invokevirtual 68, 3) := by decide +kernel
theorem dX4_slow_8 : decode cX4_slow 8 = .ok (.ifCond .ne 6, 3) := by decide +kernel
theorem dX4_slow_11 : decode cX4_slow 11 = .ok (.ldc 85, 2) := by decide +kernel
theorem dX4_slow_13 : decode cX4_slow 13 = .ok (.ireturn, 1) := by decide +kernel
theorem dX4_slow_14 : decode cX4_slow 14 = .ok (.iload_n 2, 1) := by decide +kernel
theorem dX4_slow_15 : decode cX4_slow 15 = .ok (.ifCond .lt 9, 3) := by decide +kernel
theorem dX4_slow_18 : decode cX4_slow 18 = .ok (.iload_n 2, 1) := by decide +kernel
theorem dX4_slow_19 : decode cX4_slow 19 = .ok (.bipush 9, 2) := by decide +kernel
theorem dX4_slow_21 : decode cX4_slow 21 = .ok (.if_icmp .le 6, 3) := by decide +kernel
theorem dX4_slow_24 : decode cX4_slow 24 = .ok (.ldc 84, 2) := by decide +kernel
theorem dX4_slow_26 : decode cX4_slow 26 = .ok (.ireturn, 1) := by decide +kernel
theorem dX4_slow_27 : decode cX4_slow 27 = .ok (.aload_n 0, 1) := by decide +kernel
theorem dX4_slow_28 : decode cX4_slow 28 = .ok (.getfield 22, 3) := by decide +kernel
theorem dX4_slow_31 : decode cX4_slow 31 = .ok (.aload_n 0, 1) := by decide +kernel
theorem dX4_slow_32 : decode cX4_slow 32 = .ok (.getfield 10, 3) := by decide +kernel
theorem dX4_slow_35 : decode cX4_slow 35 = .ok (.invokevirtual 127, 3) := by decide +kernel
theorem dX4_slow_38 : decode cX4_slow 38 = .ok (.aload_n 0, 1) := by decide +kernel
theorem dX4_slow_39 : decode cX4_slow 39 = .ok (.getfield 10, 3) := by decide +kernel
theorem dX4_slow_42 : decode cX4_slow 42 = .ok (.getfield 89, 3) := by decide +kernel
theorem dX4_slow_45 : decode cX4_slow 45 = .ok (.iload_n 1, 1) := by decide +kernel
theorem dX4_slow_46 : decode cX4_slow 46 = .ok (.iaload, 1) := by decide +kernel
theorem dX4_slow_47 : decode cX4_slow 47 = .ok (.istore_n 3, 1) := by decide +kernel
theorem dX4_slow_48 : decode cX4_slow 48 = .ok (.aload_n 0, 1) := by decide +kernel
theorem dX4_slow_49 : decode cX4_slow 49 = .ok (.getfield 10, 3) := by decide +kernel
theorem dX4_slow_52 : decode cX4_slow 52 = .ok (.getfield 89, 3) := by decide +kernel
theorem dX4_slow_55 : decode cX4_slow 55 = .ok (.iload_n 1, 1) := by decide +kernel
theorem dX4_slow_56 : decode cX4_slow 56 = .ok (.iload_n 2, 1) := by decide +kernel
theorem dX4_slow_57 : decode cX4_slow 57 = .ok (.iastore, 1) := by decide +kernel
theorem dX4_slow_58 : decode cX4_slow 58 = .ok (.iload_n 3, 1) := by decide +kernel
theorem dX4_slow_59 : decode cX4_slow 59 = .ok (.ireturn, 1) := by decide +kernel
set_option maxRecDepth 20000 in
theorem ggX4_bound_X2_note : GoodIn wsX4_bound wsX2_note := goodIn_r _ [13, 14, 15, 16, 17, 18, 19, 20, 21, 22, 23, 24, 25, 26, 27, 28, 29, 30, 31, 32, 47, 48, 49, 39, 40, 41, 42, 43, 44, 45, 46] (by decide +kernel) (by decide +kernel)
set_option maxRecDepth 20000 in
theorem gX4_bound_X2_note : GoodIn wsX4_bound (wsV RX4 127 RX2 yX2_note wsX2_note) := goodIn_app (goodIn_of _ (by decide +kernel)) ggX4_bound_X2_note
theorem dX4_bound_0 : decode cX4_bound 0 = .ok (.iload_n 1, 1) := by decide +kernel
theorem dX4_bound_1 : decode cX4_bound 1 = .ok (.ifCond .lt 26, 3) := by decide +kernel
theorem dX4_bound_4 : decode cX4_bound 4 = .ok (.iload_n 1, 1) := by decide +kernel
theorem dX4_bound_5 : decode cX4_bound 5 = .ok (.iconst 4, 1) := by decide +kernel
theorem dX4_bound_6 : decode cX4_bound 6 = .ok (.if_icmp .ge 21, 3) := by decide +kernel
theorem dX4_bound_9 : decode cX4_bound 9 = .ok (.iload_n 2, 1) := by decide +kernel
theorem dX4_bound_10 : decode cX4_bound 10 = .ok (.getstatic 143, 3) := by decide +kernel
theorem dX4_bound_13 : decode cX4_bound 13 = .ok (.iload_n 1, 1) := by decide +kernel
theorem dX4_bound_14 : decode cX4_bound 14 = .ok (.iaload, 1) := by decide +kernel
theorem dX4_bound_15 : decode cX4_bound 15 = .ok (.if_icmp .lt 12, 3) := by decide +kernel
theorem dX4_bound_18 : decode cX4_bound 18 = .ok (.iload_n 2, 1) := by decide +kernel
theorem dX4_bound_19 : decode cX4_bound 19 = .ok (.getstatic 146, 3) := by decide +kernel
theorem dX4_bound_22 : decode cX4_bound 22 = .ok (.iload_n 1, 1) := by decide +kernel
theorem dX4_bound_23 : decode cX4_bound 23 = .ok (.iaload, 1) := by decide +kernel
theorem dX4_bound_24 : decode cX4_bound 24 = .ok (.if_icmp .le 6, 3) := by decide +kernel
theorem dX4_bound_27 : decode cX4_bound 27 = .ok (.ldc 84, 2) := by decide +kernel
theorem dX4_bound_29 : decode cX4_bound 29 = .ok (.ireturn, 1) := by decide +kernel
theorem dX4_bound_30 : decode cX4_bound 30 = .ok (.iload_n 1, 1) := by decide +kernel
theorem dX4_bound_31 : decode cX4_bound 31 = .ok (.ifCond .ne 16, 3) := by decide +kernel
theorem dX4_bound_34 : decode cX4_bound 34 = .ok (.aload_n 0, 1) := by decide +kernel
theorem dX4_bound_35 : decode cX4_bound 35 = .ok (.getfield 10, 3) := by decide +kernel
theorem dX4_bound_38 : decode cX4_bound 38 = .ok (.getfield 47, 3) := by decide +kernel
theorem dX4_bound_41 : decode cX4_bound 41 = .ok (.ifCond .le 6, 3) := by decide +kernel
theorem dX4_bound_44 : decode cX4_bound 44 = .ok (.ldc 135, 2) := by decide +kernel
theorem dX4_bound_46 : decode cX4_bound 46 = .ok (.ireturn, 1) := by decide +kernel
theorem dX4_bound_47 : decode cX4_bound 47 = .ok (.aload_n 0, 1) := by decide +kernel
theorem dX4_bound_48 : decode cX4_bound 48 = .ok (.getfield 22, 3) := by decide +kernel
theorem dX4_bound_51 : decode cX4_bound 51 = .ok (.aload_n 0, 1) := by decide +kernel
theorem dX4_bound_52 : decode cX4_bound 52 = .ok (.getfield 10, 3) := by decide +kernel
theorem dX4_bound_55 : decode cX4_bound 55 = .ok (.invokevirtual 127, 3) := by decide +kernel
theorem dX4_bound_58 : decode cX4_bound 58 = .ok (.aload_n 0, 1) := by decide +kernel
theorem dX4_bound_59 : decode cX4_bound 59 = .ok (.getfield 10, 3) := by decide +kernel
theorem dX4_bound_62 : decode cX4_bound 62 = .ok (.getfield 50, 3) := by decide +kernel
theorem dX4_bound_65 : decode cX4_bound 65 = .ok (.iload_n 1, 1) := by decide +kernel
theorem dX4_bound_66 : decode cX4_bound 66 = .ok (.iaload, 1) := by decide +kernel
theorem dX4_bound_67 : decode cX4_bound 67 = .ok (.istore_n 3, 1) := by decide +kernel
theorem dX4_bound_68 : decode cX4_bound 68 = .ok (.aload_n 0, 1) := by decide +kernel
theorem dX4_bound_69 : decode cX4_bound 69 = .ok (.getfield 10, 3) := by decide +kernel
theorem dX4_bound_72 : decode cX4_bound 72 = .ok (.getfield 50, 3) := by decide +kernel
theorem dX4_bound_75 : decode cX4_bound 75 = .ok (.iload_n 1, 1) := by decide +kernel
theorem dX4_bound_76 : decode cX4_bound 76 = .ok (.iload_n 2, 1) := by decide +kernel
theorem dX4_bound_77 : decode cX4_bound 77 = .ok (.iastore, 1) := by decide +kernel
theorem dX4_bound_78 : decode cX4_bound 78 = .ok (.iload_n 3, 1) := by decide +kernel
theorem dX4_bound_79 : decode cX4_bound 79 = .ok (.ireturn, 1) := by decide +kernel
set_option maxRecDepth 20000 in
theorem ggX4_clear_X2_note : GoodIn wsX4_clear wsX2_note := goodIn_r _ [8, 9, 10, 11, 12, 13, 14, 15, 16, 17, 18, 19, 20, 21, 22, 23, 24, 25, 26, 27, 46, 47, 48, 38, 39, 40, 41, 42, 43, 44, 45] (by decide +kernel) (by decide +kernel)
set_option maxRecDepth 20000 in
theorem gX4_clear_X2_note : GoodIn wsX4_clear (wsV RX4 127 RX2 yX2_note wsX2_note) := goodIn_app (goodIn_of _ (by decide +kernel)) ggX4_clear_X2_note
set_option maxRecDepth 20000 in
theorem ggX4_clear_X3_empty : GoodIn wsX4_clear wsX3_empty := goodIn_r _ [31, 26, 22, 27, 38, 39, 40, 41, 42, 43, 44, 45] (by decide +kernel) (by decide +kernel)
set_option maxRecDepth 20000 in
theorem gX4_clear_X3_empty : GoodIn wsX4_clear (wsV RX4 149 RX3 yX3_empty wsX3_empty) := goodIn_app (goodIn_of _ (by decide +kernel)) ggX4_clear_X3_empty
theorem dX4_clear_0 : decode cX4_clear 0 = .ok (.aload_n 0, 1) := by decide +kernel
theorem dX4_clear_1 : decode cX4_clear 1 = .ok (.getfield 22, 3) := by decide +kernel
theorem dX4_clear_4 : decode cX4_clear 4 = .ok (.aload_n 0, 1) := by decide +kernel
theorem dX4_clear_5 : decode cX4_clear 5 = .ok (.getfield 10, 3) := by decide +kernel
theorem dX4_clear_8 : decode cX4_clear 8 = .ok (.invokevirtual 127, 3) := by decide +kernel
theorem dX4_clear_11 : decode cX4_clear 11 = .ok (.aload_n 0, 1) := by decide +kernel
theorem dX4_clear_12 : decode cX4_clear 12 = .ok (.getfield 10, 3) := by decide +kernel
theorem dX4_clear_15 : decode cX4_clear 15 = .ok (.getfield 47, 3) := by decide +kernel
theorem dX4_clear_18 : decode cX4_clear 18 = .ok (.istore_n 1, 1) := by decide +kernel
theorem dX4_clear_19 : decode cX4_clear 19 = .ok (.aload_n 0, 1) := by decide +kernel
theorem dX4_clear_20 : decode cX4_clear 20 = .ok (.getfield 10, 3) := by decide +kernel
theorem dX4_clear_23 : decode cX4_clear 23 = .ok (.invokevirtual 149, 3) := by decide +kernel
theorem dX4_clear_26 : decode cX4_clear 26 = .ok (.iload_n 1, 1) := by decide +kernel
theorem dX4_clear_27 : decode cX4_clear 27 = .ok (.ireturn, 1) := by decide +kernel
set_option maxRecDepth 20000 in
theorem ggX4_drift_X2_note : GoodIn wsX4_drift wsX2_note := goodIn_r _ [11, 12, 13, 14, 15, 16, 17, 18, 19, 20, 21, 22, 23, 24, 25, 26, 27, 28, 29, 30, 135, 136, 137, 127, 128, 129, 130, 131, 132, 133, 134] (by decide +kernel) (by decide +kernel)
set_option maxRecDepth 20000 in
theorem gX4_drift_X2_note : GoodIn wsX4_drift (wsV RX4 127 RX2 yX2_note wsX2_note) := goodIn_app (goodIn_of _ (by decide +kernel)) ggX4_drift_X2_note
set_option maxRecDepth 20000 in
theorem ggX4_drift_X4_nextDraw : GoodIn wsX4_drift wsX4_nextDraw := goodIn_r _ [35, 36, 37, 38, 39, 121, 122, 123, 124, 125, 126] (by decide +kernel) (by decide +kernel)
set_option maxRecDepth 20000 in
theorem gX4_drift_X4_nextDraw : GoodIn wsX4_drift (wsV RX4 152 RX4 yX4_nextDraw wsX4_nextDraw) := goodIn_app (goodIn_of _ (by decide +kernel)) ggX4_drift_X4_nextDraw
set_option maxRecDepth 20000 in
theorem ggX4_drift_X4_tryPour : GoodIn wsX4_drift wsX4_tryPour := goodIn_r _ [43, 3, 6, 5, 44, 20, 21, 22, 23, 24, 25, 26, 27, 28, 29, 30, 45, 46, 47, 48, 49, 50, 51, 52, 53, 54, 55, 56, 57, 58, 16, 17, 18, 59, 60, 61, 62, 63, 64, 65, 66, 67, 68, 69, 70, 71, 72, 73, 74, 75, 76, 77, 78, 79, 80, 81, 82, 34, 83, 84, 85, 86, 87, 88, 89, 90, 91, 92, 93, 94, 95, 96, 97, 98, 99, 100, 101, 121, 122, 123, 124, 125, 126, 127, 128, 129, 130, 131, 132, 133, 134] (by decide +kernel) (by decide +kernel)
set_option maxRecDepth 20000 in
theorem gX4_drift_X4_tryPour : GoodIn wsX4_drift (wsV RX4 132 RX4 yX4_tryPour wsX4_tryPour) := goodIn_app (goodIn_of _ (by decide +kernel)) ggX4_drift_X4_tryPour
set_option maxRecDepth 20000 in
theorem ggX4_drift_X4_tryStrike : GoodIn wsX4_drift wsX4_tryStrike := goodIn_r _ [105, 3, 5, 4, 106, 107, 108, 22, 109, 25, 110, 67, 68, 69, 30, 44, 20, 21, 23, 24, 26, 27, 28, 29, 111, 112, 113, 114, 115, 116, 117, 118, 119, 66, 70, 71, 72, 73, 53, 54, 55, 56, 57, 58, 16, 17, 18, 59, 60, 61, 62, 63, 64, 65, 74, 75, 76, 77, 78, 79, 80, 81, 82, 34, 83, 84, 85, 86, 87, 88, 89, 90, 91, 92, 93, 94, 95, 96, 97, 98, 99, 100, 101, 121, 122, 123, 124, 125, 126, 127, 128, 129, 130, 131, 132, 133, 134] (by decide +kernel) (by decide +kernel)
set_option maxRecDepth 20000 in
theorem gX4_drift_X4_tryStrike : GoodIn wsX4_drift (wsV RX4 120 RX4 yX4_tryStrike wsX4_tryStrike) := goodIn_app (goodIn_of _ (by decide +kernel)) ggX4_drift_X4_tryStrike
set_option maxRecDepth 20000 in
theorem ggX4_drift_X3_copyFrom : GoodIn wsX4_drift wsX3_copyFrom := goodIn_r _ [23, 24, 25, 26, 27, 28, 29, 30, 127, 128, 129, 130, 131, 132, 133, 134] (by decide +kernel) (by decide +kernel)
set_option maxRecDepth 20000 in
theorem gX4_drift_X3_copyFrom : GoodIn wsX4_drift (wsV RX4 136 RX3 yX3_copyFrom wsX3_copyFrom) := goodIn_app (goodIn_of _ (by decide +kernel)) ggX4_drift_X3_copyFrom
set_option maxRecDepth 20000 in
theorem ggX4_drift_X3_has : GoodIn wsX4_drift wsX3_has := goodIn_r _ [109, 25, 127, 128, 129, 130, 131, 132, 133, 134] (by decide +kernel) (by decide +kernel)
set_option maxRecDepth 20000 in
theorem gX4_drift_X3_has : GoodIn wsX4_drift (wsV RX4 68 RX3 yX3_has wsX3_has) := goodIn_app (goodIn_of _ (by decide +kernel)) ggX4_drift_X3_has
set_option maxRecDepth 20000 in
theorem ggX4_drift_X3_putProps : GoodIn wsX4_drift wsX3_putProps := goodIn_r _ [52, 30, 127, 128, 129, 130, 131, 132, 133, 134] (by decide +kernel) (by decide +kernel)
set_option maxRecDepth 20000 in
theorem gX4_drift_X3_putProps : GoodIn wsX4_drift (wsV RX4 139 RX3 yX3_putProps wsX3_putProps) := goodIn_app (goodIn_of _ (by decide +kernel)) ggX4_drift_X3_putProps
theorem dX4_drift_0 : decode cX4_drift 0 = .ok (.iload_n 1, 1) := by decide +kernel
theorem dX4_drift_1 : decode cX4_drift 1 = .ok (.iconst 1, 1) := by decide +kernel
theorem dX4_drift_2 : decode cX4_drift 2 = .ok (.if_icmp .lt 9, 3) := by decide +kernel
theorem dX4_drift_5 : decode cX4_drift 5 = .ok (.iload_n 1, 1) := by decide +kernel
theorem dX4_drift_6 : decode cX4_drift 6 = .ok (.bipush 20, 2) := by decide +kernel
theorem dX4_drift_8 : decode cX4_drift 8 = .ok (.if_icmp .le 6, 3) := by decide +kernel
theorem dX4_drift_11 : decode cX4_drift 11 = .ok (.ldc 84, 2) := by decide +kernel
theorem dX4_drift_13 : decode cX4_drift 13 = .ok (.ireturn, 1) := by decide +kernel
theorem dX4_drift_14 : decode cX4_drift 14 = .ok (.iconst 0, 1) := by decide +kernel
theorem dX4_drift_15 : decode cX4_drift 15 = .ok (.istore_n 2, 1) := by decide +kernel
theorem dX4_drift_16 : decode cX4_drift 16 = .ok (.iload_n 2, 1) := by decide +kernel
theorem dX4_drift_17 : decode cX4_drift 17 = .ok (.iload_n 1, 1) := by decide +kernel
theorem dX4_drift_18 : decode cX4_drift 18 = .ok (.if_icmp .ge 134, 3) := by decide +kernel
theorem dX4_drift_21 : decode cX4_drift 21 = .ok (.aload_n 0, 1) := by decide +kernel
theorem dX4_drift_22 : decode cX4_drift 22 = .ok (.getfield 22, 3) := by decide +kernel
theorem dX4_drift_25 : decode cX4_drift 25 = .ok (.aload_n 0, 1) := by decide +kernel
theorem dX4_drift_26 : decode cX4_drift 26 = .ok (.getfield 10, 3) := by decide +kernel
theorem dX4_drift_29 : decode cX4_drift 29 = .ok (.invokevirtual 127, 3) := by decide +kernel
theorem dX4_drift_32 : decode cX4_drift 32 = .ok (.aload_n 0, 1) := by decide +kernel
theorem dX4_drift_33 : decode cX4_drift 33 = .ok (.invokevirtual 152, 3) := by decide +kernel
theorem dX4_drift_36 : decode cX4_drift 36 = .ok (.iconst 5, 1) := by decide +kernel
theorem dX4_drift_37 : decode cX4_drift 37 = .ok (.irem, 1) := by decide +kernel
theorem dX4_drift_38 : decode cX4_drift 38 = .ok (.istore_n 3, 1) := by decide +kernel
theorem dX4_drift_39 : decode cX4_drift 39 = .ok (.aload_n 0, 1) := by decide +kernel
theorem dX4_drift_40 : decode cX4_drift 40 = .ok (.invokevirtual 152, 3) := by decide +kernel
theorem dX4_drift_43 : decode cX4_drift 43 = .ok (.bipush 8, 2) := by decide +kernel
theorem dX4_drift_45 : decode cX4_drift 45 = .ok (.irem, 1) := by decide +kernel
theorem dX4_drift_46 : decode cX4_drift 46 = .ok (.istore 4, 2) := by decide +kernel
theorem dX4_drift_48 : decode cX4_drift 48 = .ok (.aload_n 0, 1) := by decide +kernel
theorem dX4_drift_49 : decode cX4_drift 49 = .ok (.invokevirtual 152, 3) := by decide +kernel
theorem dX4_drift_52 : decode cX4_drift 52 = .ok (.bipush 10, 2) := by decide +kernel
theorem dX4_drift_54 : decode cX4_drift 54 = .ok (.irem, 1) := by decide +kernel
theorem dX4_drift_55 : decode cX4_drift 55 = .ok (.istore 5, 2) := by decide +kernel
theorem dX4_drift_57 : decode cX4_drift 57 = .ok (.iload_n 3, 1) := by decide +kernel
theorem dX4_drift_58 : decode cX4_drift 58 = .ok (.iconst 2, 1) := by decide +kernel
theorem dX4_drift_59 : decode cX4_drift 59 = .ok (.if_icmp .ge 20, 3) := by decide +kernel
theorem dX4_drift_62 : decode cX4_drift 62 = .ok (.aload_n 0, 1) := by decide +kernel
theorem dX4_drift_63 : decode cX4_drift 63 = .ok (.getfield 10, 3) := by decide +kernel
theorem dX4_drift_66 : decode cX4_drift 66 = .ok (.dup, 1) := by decide +kernel
theorem dX4_drift_67 : decode cX4_drift 67 = .ok (.getfield 44, 3) := by decide +kernel
theorem dX4_drift_70 : decode cX4_drift 70 = .ok (.iload 5, 2) := by decide +kernel
theorem dX4_drift_72 : decode cX4_drift 72 = .ok (.iadd, 1) := by decide +kernel
theorem dX4_drift_73 : decode cX4_drift 73 = .ok (.putfield 44, 3) := by decide +kernel
theorem dX4_drift_76 : decode cX4_drift 76 = .ok (.goto 70, 3) := by decide +kernel
theorem dX4_drift_79 : decode cX4_drift 79 = .ok (.iload_n 3, 1) := by decide +kernel
theorem dX4_drift_80 : decode cX4_drift 80 = .ok (.iconst 2, 1) := by decide +kernel
theorem dX4_drift_81 : decode cX4_drift 81 = .ok (.if_icmp .ne 10, 3) := by decide +kernel
theorem dX4_drift_84 : decode cX4_drift 84 = .ok (.aload_n 0, 1) := by decide +kernel
theorem dX4_drift_85 : decode cX4_drift 85 = .ok (.invokevirtual 132, 3) := by decide +kernel
theorem dX4_drift_88 : decode cX4_drift 88 = .ok (.ifCond .ne 18, 3) := by decide +kernel
theorem dX4_drift_91 : decode cX4_drift 91 = .ok (.iload_n 3, 1) := by decide +kernel
theorem dX4_drift_92 : decode cX4_drift 92 = .ok (.iconst 3, 1) := by decide +kernel
theorem dX4_drift_93 : decode cX4_drift 93 = .ok (.if_icmp .ne 27, 3) := by decide +kernel
theorem dX4_drift_96 : decode cX4_drift 96 = .ok (.aload_n 0, 1) := by decide +kernel
theorem dX4_drift_97 : decode cX4_drift 97 = .ok (.iload 4, 2) := by decide +kernel
theorem dX4_drift_99 : decode cX4_drift 99 = .ok (.iconst 0, 1) := by decide +kernel
theorem dX4_drift_100 : decode cX4_drift 100 = .ok (.invokevirtual 120, 3) := by decide +kernel
theorem dX4_drift_103 : decode cX4_drift 103 = .ok (.ifCond .eq 17, 3) := by decide +kernel
theorem dX4_drift_106 : decode cX4_drift 106 = .ok (.aload_n 0, 1) := by decide +kernel
theorem dX4_drift_107 : decode cX4_drift 107 = .ok (.getfield 10, 3) := by decide +kernel
theorem dX4_drift_110 : decode cX4_drift 110 = .ok (.aload_n 0, 1) := by decide +kernel
theorem dX4_drift_111 : decode cX4_drift 111 = .ok (.getfield 16, 3) := by decide +kernel
theorem dX4_drift_114 : decode cX4_drift 114 = .ok (.invokevirtual 136, 3) := by decide +kernel
theorem dX4_drift_117 : decode cX4_drift 117 = .ok (.goto 29, 3) := by decide +kernel
theorem dX4_drift_120 : decode cX4_drift 120 = .ok (.iload_n 3, 1) := by decide +kernel
theorem dX4_drift_121 : decode cX4_drift 121 = .ok (.iconst 4, 1) := by decide +kernel
theorem dX4_drift_122 : decode cX4_drift 122 = .ok (.if_icmp .ne 24, 3) := by decide +kernel
theorem dX4_drift_125 : decode cX4_drift 125 = .ok (.aload_n 0, 1) := by decide +kernel
theorem dX4_drift_126 : decode cX4_drift 126 = .ok (.getfield 10, 3) := by decide +kernel
theorem dX4_drift_129 : decode cX4_drift 129 = .ok (.iload 4, 2) := by decide +kernel
theorem dX4_drift_131 : decode cX4_drift 131 = .ok (.invokevirtual 68, 3) := by decide +kernel
theorem dX4_drift_134 : decode cX4_drift 134 = .ok (.ifCond .eq 12, 3) := by decide +kernel
theorem dX4_drift_137 : decode cX4_drift 137 = .ok (.aload_n 0, 1) := by decide +kernel
theorem dX4_drift_138 : decode cX4_drift 138 = .ok (.getfield 10, 3) := by decide +kernel
theorem dX4_drift_141 : decode cX4_drift 141 = .ok (.iload 4, 2) := by decide +kernel
theorem dX4_drift_143 : decode cX4_drift 143 = .ok (.invokevirtual 139, 3) := by decide +kernel
theorem dX4_drift_146 : decode cX4_drift 146 = .ok (.iinc 2 1, 3) := by decide +kernel
theorem dX4_drift_149 : decode cX4_drift 149 = .ok (.goto (-133), 3) := by decide +kernel
theorem dX4_drift_152 : decode cX4_drift 152 = .ok (.aload_n 0, 1) := by decide +kernel
theorem dX4_drift_153 : decode cX4_drift 153 = .ok (.getfield 10, 3) := by decide +kernel
theorem dX4_drift_156 : decode cX4_drift 156 = .ok (.getfield 47, 3) := by decide +kernel
theorem dX4_drift_159 : decode cX4_drift 159 = .ok (.ireturn, 1) := by decide +kernel
set_option maxRecDepth 20000 in
theorem ggX4_undo_X2_takeBack : GoodIn wsX4_undo wsX2_takeBack := goodIn_r _ [11, 12, 13, 14, 15, 16, 17, 18, 19, 20, 21, 22, 23, 24, 25, 26, 33, 34, 35, 36, 37, 38, 39, 40, 41, 42, 43] (by decide +kernel) (by decide +kernel)
set_option maxRecDepth 20000 in
theorem gX4_undo_X2_takeBack : GoodIn wsX4_undo (wsV RX4 155 RX2 yX2_takeBack wsX2_takeBack) := goodIn_app (goodIn_of _ (by decide +kernel)) ggX4_undo_X2_takeBack
theorem dX4_undo_0 : decode cX4_undo 0 = .ok (.iload_n 1, 1) := by decide +kernel
theorem dX4_undo_1 : decode cX4_undo 1 = .ok (.iconst 1, 1) := by decide +kernel
theorem dX4_undo_2 : decode cX4_undo 2 = .ok (.if_icmp .lt 9, 3) := by decide +kernel
theorem dX4_undo_5 : decode cX4_undo 5 = .ok (.iload_n 1, 1) := by decide +kernel
theorem dX4_undo_6 : decode cX4_undo 6 = .ok (.bipush 20, 2) := by decide +kernel
theorem dX4_undo_8 : decode cX4_undo 8 = .ok (.if_icmp .le 6, 3) := by decide +kernel
theorem dX4_undo_11 : decode cX4_undo 11 = .ok (.ldc 84, 2) := by decide +kernel
theorem dX4_undo_13 : decode cX4_undo 13 = .ok (.ireturn, 1) := by decide +kernel
theorem dX4_undo_14 : decode cX4_undo 14 = .ok (.iload_n 1, 1) := by decide +kernel
theorem dX4_undo_15 : decode cX4_undo 15 = .ok (.aload_n 0, 1) := by decide +kernel
theorem dX4_undo_16 : decode cX4_undo 16 = .ok (.getfield 22, 3) := by decide +kernel
theorem dX4_undo_19 : decode cX4_undo 19 = .ok (.getfield 83, 3) := by decide +kernel
theorem dX4_undo_22 : decode cX4_undo 22 = .ok (.if_icmp .le 6, 3) := by decide +kernel
theorem dX4_undo_25 : decode cX4_undo 25 = .ok (.ldc 135, 2) := by decide +kernel
theorem dX4_undo_27 : decode cX4_undo 27 = .ok (.ireturn, 1) := by decide +kernel
theorem dX4_undo_28 : decode cX4_undo 28 = .ok (.aload_n 0, 1) := by decide +kernel
theorem dX4_undo_29 : decode cX4_undo 29 = .ok (.getfield 22, 3) := by decide +kernel
theorem dX4_undo_32 : decode cX4_undo 32 = .ok (.iload_n 1, 1) := by decide +kernel
theorem dX4_undo_33 : decode cX4_undo 33 = .ok (.aload_n 0, 1) := by decide +kernel
theorem dX4_undo_34 : decode cX4_undo 34 = .ok (.getfield 10, 3) := by decide +kernel
theorem dX4_undo_37 : decode cX4_undo 37 = .ok (.invokevirtual 155, 3) := by decide +kernel
theorem dX4_undo_40 : decode cX4_undo 40 = .ok (.aload_n 0, 1) := by decide +kernel
theorem dX4_undo_41 : decode cX4_undo 41 = .ok (.getfield 10, 3) := by decide +kernel
theorem dX4_undo_44 : decode cX4_undo 44 = .ok (.getfield 44, 3) := by decide +kernel
theorem dX4_undo_47 : decode cX4_undo 47 = .ok (.ireturn, 1) := by decide +kernel
set_option maxRecDepth 20000 in
theorem ggX4_write_X3_has : GoodIn wsX4_write wsX3_has := goodIn_r _ [10, 11, 29, 30, 31, 32, 33, 34, 35, 36] (by decide +kernel) (by decide +kernel)
set_option maxRecDepth 20000 in
theorem gX4_write_X3_has : GoodIn wsX4_write (wsV RX4 68 RX3 yX3_has wsX3_has) := goodIn_app (goodIn_of _ (by decide +kernel)) ggX4_write_X3_has
set_option maxRecDepth 20000 in
theorem ggX4_write_X0_add : GoodIn wsX4_write wsX0_add := goodIn_r _ [16, 17, 18, 19, 26, 27, 28] (by decide +kernel) (by decide +kernel)
set_option maxRecDepth 20000 in
theorem gX4_write_X0_add : GoodIn wsX4_write (wsV RX4 159 RX0 yX0_add wsX0_add) := goodIn_app (goodIn_of _ (by decide +kernel)) ggX4_write_X0_add
theorem dX4_write_0 : decode cX4_write 0 = .ok (.aload_n 0, 1) := by decide +kernel
theorem dX4_write_1 : decode cX4_write 1 = .ok (.getfield 10, 3) := by decide +kernel
theorem dX4_write_4 : decode cX4_write 4 = .ok (.iload_n 1, 1) := by decide +kernel
theorem dX4_write_5 : decode cX4_write 5 = .ok (.invokevirtual 68, 3) := by decide +kernel
theorem dX4_write_8 : decode cX4_write 8 = .ok (.ifCond .ne 6, 3) := by decide +kernel
theorem dX4_write_11 : decode cX4_write 11 = .ok (.ldc 85, 2) := by decide +kernel
theorem dX4_write_13 : decode cX4_write 13 = .ok (.ireturn, 1) := by decide +kernel
theorem dX4_write_14 : decode cX4_write 14 = .ok (.aload_n 0, 1) := by decide +kernel
theorem dX4_write_15 : decode cX4_write 15 = .ok (.getfield 29, 3) := by decide +kernel
theorem dX4_write_18 : decode cX4_write 18 = .ok (.getfield 76, 3) := by decide +kernel
theorem dX4_write_21 : decode cX4_write 21 = .ok (.bipush 20, 2) := by decide +kernel
theorem dX4_write_23 : decode cX4_write 23 = .ok (.if_icmp .lt 6, 3) := by decide +kernel
theorem dX4_write_26 : decode cX4_write 26 = .ok (.ldc 131, 2) := by decide +kernel
theorem dX4_write_28 : decode cX4_write 28 = .ok (.ireturn, 1) := by decide +kernel
theorem dX4_write_29 : decode cX4_write 29 = .ok (.aload_n 0, 1) := by decide +kernel
theorem dX4_write_30 : decode cX4_write 30 = .ok (.getfield 29, 3) := by decide +kernel
theorem dX4_write_33 : decode cX4_write 33 = .ok (.iload_n 1, 1) := by decide +kernel
theorem dX4_write_34 : decode cX4_write 34 = .ok (.iload_n 2, 1) := by decide +kernel
theorem dX4_write_35 : decode cX4_write 35 = .ok (.invokevirtual 159, 3) := by decide +kernel
theorem dX4_write_38 : decode cX4_write 38 = .ok (.aload_n 0, 1) := by decide +kernel
theorem dX4_write_39 : decode cX4_write 39 = .ok (.getfield 29, 3) := by decide +kernel
theorem dX4_write_42 : decode cX4_write 42 = .ok (.getfield 76, 3) := by decide +kernel
theorem dX4_write_45 : decode cX4_write 45 = .ok (.ireturn, 1) := by decide +kernel
theorem dX4_tear_0 : decode cX4_tear 0 = .ok (.aload_n 0, 1) := by decide +kernel
theorem dX4_tear_1 : decode cX4_tear 1 = .ok (.getfield 29, 3) := by decide +kernel
theorem dX4_tear_4 : decode cX4_tear 4 = .ok (.getfield 76, 3) := by decide +kernel
theorem dX4_tear_7 : decode cX4_tear 7 = .ok (.istore_n 1, 1) := by decide +kernel
theorem dX4_tear_8 : decode cX4_tear 8 = .ok (.aload_n 0, 1) := by decide +kernel
theorem dX4_tear_9 : decode cX4_tear 9 = .ok (.getfield 29, 3) := by decide +kernel
theorem dX4_tear_12 : decode cX4_tear 12 = .ok (.iconst 0, 1) := by decide +kernel
theorem dX4_tear_13 : decode cX4_tear 13 = .ok (.putfield 76, 3) := by decide +kernel
theorem dX4_tear_16 : decode cX4_tear 16 = .ok (.iload_n 1, 1) := by decide +kernel
theorem dX4_tear_17 : decode cX4_tear 17 = .ok (.ireturn, 1) := by decide +kernel
theorem dX4_seed_0 : decode cX4_seed 0 = .ok (.iload_n 1, 1) := by decide +kernel
theorem dX4_seed_1 : decode cX4_seed 1 = .ok (.ifCond .ge 6, 3) := by decide +kernel
theorem dX4_seed_4 : decode cX4_seed 4 = .ok (.ldc 84, 2) := by decide +kernel
theorem dX4_seed_6 : decode cX4_seed 6 = .ok (.ireturn, 1) := by decide +kernel
theorem dX4_seed_7 : decode cX4_seed 7 = .ok (.aload_n 0, 1) := by decide +kernel
theorem dX4_seed_8 : decode cX4_seed 8 = .ok (.getfield 39, 3) := by decide +kernel
theorem dX4_seed_11 : decode cX4_seed 11 = .ok (.istore_n 2, 1) := by decide +kernel
theorem dX4_seed_12 : decode cX4_seed 12 = .ok (.aload_n 0, 1) := by decide +kernel
theorem dX4_seed_13 : decode cX4_seed 13 = .ok (.iload_n 1, 1) := by decide +kernel
theorem dX4_seed_14 : decode cX4_seed 14 = .ok (.putfield 39, 3) := by decide +kernel
theorem dX4_seed_17 : decode cX4_seed 17 = .ok (.iload_n 2, 1) := by decide +kernel
theorem dX4_seed_18 : decode cX4_seed 18 = .ok (.ireturn, 1) := by decide +kernel
set_option maxRecDepth 20000 in
theorem ggX4_keep_X1_take : GoodIn wsX4_keep wsX1_take := goodIn_r _ [10, 11, 12, 13, 14, 15, 16, 17, 18, 19, 20, 21, 22, 23, 24, 25, 38, 39, 40, 41, 42, 43, 44, 45, 46, 47, 48] (by decide +kernel) (by decide +kernel)
set_option maxRecDepth 20000 in
theorem gX4_keep_X1_take : GoodIn wsX4_keep (wsV RX4 163 RX1 yX1_take wsX1_take) := goodIn_app (goodIn_of _ (by decide +kernel)) ggX4_keep_X1_take
set_option maxRecDepth 20000 in
theorem ggX4_keep_X2_forget : GoodIn wsX4_keep wsX2_forget := goodIn_r _ [30, 31, 49, 50, 51] (by decide +kernel) (by decide +kernel)
set_option maxRecDepth 20000 in
theorem gX4_keep_X2_forget : GoodIn wsX4_keep (wsV RX4 167 RX2 yX2_forget wsX2_forget) := goodIn_app (goodIn_of _ (by decide +kernel)) ggX4_keep_X2_forget
theorem dX4_keep_0 : decode cX4_keep 0 = .ok (.iload_n 1, 1) := by decide +kernel
theorem dX4_keep_1 : decode cX4_keep 1 = .ok (.ifCond .lt 8, 3) := by decide +kernel
theorem dX4_keep_4 : decode cX4_keep 4 = .ok (.iload_n 1, 1) := by decide +kernel
theorem dX4_keep_5 : decode cX4_keep 5 = .ok (.iconst 2, 1) := by decide +kernel
theorem dX4_keep_6 : decode cX4_keep 6 = .ok (.if_icmp .lt 6, 3) := by decide +kernel
theorem dX4_keep_9 : decode cX4_keep 9 = .ok (.ldc 85, 2) := by decide +kernel
theorem dX4_keep_11 : decode cX4_keep 11 = .ok (.ireturn, 1) := by decide +kernel
theorem dX4_keep_12 : decode cX4_keep 12 = .ok (.aload_n 0, 1) := by decide +kernel
theorem dX4_keep_13 : decode cX4_keep 13 = .ok (.getfield 35, 3) := by decide +kernel
theorem dX4_keep_16 : decode cX4_keep 16 = .ok (.iload_n 1, 1) := by decide +kernel
theorem dX4_keep_17 : decode cX4_keep 17 = .ok (.aaload, 1) := by decide +kernel
theorem dX4_keep_18 : decode cX4_keep 18 = .ok (.aload_n 0, 1) := by decide +kernel
theorem dX4_keep_19 : decode cX4_keep 19 = .ok (.getfield 10, 3) := by decide +kernel
theorem dX4_keep_22 : decode cX4_keep 22 = .ok (.aload_n 0, 1) := by decide +kernel
theorem dX4_keep_23 : decode cX4_keep 23 = .ok (.getfield 39, 3) := by decide +kernel
theorem dX4_keep_26 : decode cX4_keep 26 = .ok (.invokevirtual 163, 3) := by decide +kernel
theorem dX4_keep_29 : decode cX4_keep 29 = .ok (.aload_n 0, 1) := by decide +kernel
theorem dX4_keep_30 : decode cX4_keep 30 = .ok (.getfield 22, 3) := by decide +kernel
theorem dX4_keep_33 : decode cX4_keep 33 = .ok (.invokevirtual 167, 3) := by decide +kernel
theorem dX4_keep_36 : decode cX4_keep 36 = .ok (.iconst 1, 1) := by decide +kernel
theorem dX4_keep_37 : decode cX4_keep 37 = .ok (.ireturn, 1) := by decide +kernel
set_option maxRecDepth 20000 in
theorem ggX4_goBack_X3_copyFrom : GoodIn wsX4_goBack wsX3_copyFrom := goodIn_r _ [14, 15, 16, 17, 18, 19, 20, 21, 37, 38, 39, 40, 41, 42, 43, 44] (by decide +kernel) (by decide +kernel)
set_option maxRecDepth 20000 in
theorem gX4_goBack_X3_copyFrom : GoodIn wsX4_goBack (wsV RX4 136 RX3 yX3_copyFrom wsX3_copyFrom) := goodIn_app (goodIn_of _ (by decide +kernel)) ggX4_goBack_X3_copyFrom
set_option maxRecDepth 20000 in
theorem ggX4_goBack_X2_forget : GoodIn wsX4_goBack wsX2_forget := goodIn_r _ [26, 27, 45, 46, 47] (by decide +kernel) (by decide +kernel)
set_option maxRecDepth 20000 in
theorem gX4_goBack_X2_forget : GoodIn wsX4_goBack (wsV RX4 167 RX2 yX2_forget wsX2_forget) := goodIn_app (goodIn_of _ (by decide +kernel)) ggX4_goBack_X2_forget
theorem dX4_goBack_0 : decode cX4_goBack 0 = .ok (.iload_n 1, 1) := by decide +kernel
theorem dX4_goBack_1 : decode cX4_goBack 1 = .ok (.ifCond .lt 8, 3) := by decide +kernel
theorem dX4_goBack_4 : decode cX4_goBack 4 = .ok (.iload_n 1, 1) := by decide +kernel
theorem dX4_goBack_5 : decode cX4_goBack 5 = .ok (.iconst 2, 1) := by decide +kernel
theorem dX4_goBack_6 : decode cX4_goBack 6 = .ok (.if_icmp .lt 6, 3) := by decide +kernel
theorem dX4_goBack_9 : decode cX4_goBack 9 = .ok (.ldc 85, 2) := by decide +kernel
theorem dX4_goBack_11 : decode cX4_goBack 11 = .ok (.ireturn, 1) := by decide +kernel
theorem dX4_goBack_12 : decode cX4_goBack 12 = .ok (.aload_n 0, 1) := by decide +kernel
theorem dX4_goBack_13 : decode cX4_goBack 13 = .ok (.getfield 35, 3) := by decide +kernel
theorem dX4_goBack_16 : decode cX4_goBack 16 = .ok (.iload_n 1, 1) := by decide +kernel
theorem dX4_goBack_17 : decode cX4_goBack 17 = .ok (.aaload, 1) := by decide +kernel
theorem dX4_goBack_18 : decode cX4_goBack 18 = .ok (.getfield 170, 3) := by decide +kernel
theorem dX4_goBack_21 : decode cX4_goBack 21 = .ok (.ifCond .ne 6, 3) := by decide +kernel
theorem dX4_goBack_24 : decode cX4_goBack 24 = .ok (.ldc 135, 2) := by decide +kernel
theorem dX4_goBack_26 : decode cX4_goBack 26 = .ok (.ireturn, 1) := by decide +kernel
theorem dX4_goBack_27 : decode cX4_goBack 27 = .ok (.aload_n 0, 1) := by decide +kernel
theorem dX4_goBack_28 : decode cX4_goBack 28 = .ok (.getfield 10, 3) := by decide +kernel
theorem dX4_goBack_31 : decode cX4_goBack 31 = .ok (.aload_n 0, 1) := by decide +kernel
theorem dX4_goBack_32 : decode cX4_goBack 32 = .ok (.getfield 35, 3) := by decide +kernel
theorem dX4_goBack_35 : decode cX4_goBack 35 = .ok (.iload_n 1, 1) := by decide +kernel
theorem dX4_goBack_36 : decode cX4_goBack 36 = .ok (.aaload, 1) := by decide +kernel
theorem dX4_goBack_37 : decode cX4_goBack 37 = .ok (.getfield 174, 3) := by decide +kernel
theorem dX4_goBack_40 : decode cX4_goBack 40 = .ok (.invokevirtual 136, 3) := by decide +kernel
theorem dX4_goBack_43 : decode cX4_goBack 43 = .ok (.aload_n 0, 1) := by decide +kernel
theorem dX4_goBack_44 : decode cX4_goBack 44 = .ok (.aload_n 0, 1) := by decide +kernel
theorem dX4_goBack_45 : decode cX4_goBack 45 = .ok (.getfield 35, 3) := by decide +kernel
theorem dX4_goBack_48 : decode cX4_goBack 48 = .ok (.iload_n 1, 1) := by decide +kernel
theorem dX4_goBack_49 : decode cX4_goBack 49 = .ok (.aaload, 1) := by decide +kernel
theorem dX4_goBack_50 : decode cX4_goBack 50 = .ok (.getfield 177, 3) := by decide +kernel
theorem dX4_goBack_53 : decode cX4_goBack 53 = .ok (.putfield 39, 3) := by decide +kernel
theorem dX4_goBack_56 : decode cX4_goBack 56 = .ok (.aload_n 0, 1) := by decide +kernel
theorem dX4_goBack_57 : decode cX4_goBack 57 = .ok (.getfield 22, 3) := by decide +kernel
theorem dX4_goBack_60 : decode cX4_goBack 60 = .ok (.invokevirtual 167, 3) := by decide +kernel
theorem dX4_goBack_63 : decode cX4_goBack 63 = .ok (.iconst 1, 1) := by decide +kernel
theorem dX4_goBack_64 : decode cX4_goBack 64 = .ok (.ireturn, 1) := by decide +kernel
set_option maxRecDepth 20000 in
theorem ggX4_tryPour_X3_copyFrom : GoodIn wsX4_tryPour wsX3_copyFrom := goodIn_r _ [8, 9, 10, 11, 12, 13, 14, 15, 83, 84, 85, 86, 87, 88, 89, 90] (by decide +kernel) (by decide +kernel)
set_option maxRecDepth 20000 in
theorem gX4_tryPour_X3_copyFrom : GoodIn wsX4_tryPour (wsV RX4 136 RX3 yX3_copyFrom wsX3_copyFrom) := goodIn_app (goodIn_of _ (by decide +kernel)) ggX4_tryPour_X3_copyFrom
set_option maxRecDepth 20000 in
theorem ggX4_tryPour_X3_addFloor : GoodIn wsX4_tryPour wsX3_addFloor := goodIn_r _ [19, 10, 11, 14, 12, 13, 9, 20, 21, 22, 7, 23, 15, 24, 25, 26, 27, 28, 29, 30, 31, 32, 33, 34, 35, 36, 37, 38, 39, 40, 41, 42, 43, 44, 45, 46, 47, 48, 49, 50, 51, 52, 53, 54, 55, 56, 57, 58, 59, 60, 61, 62, 63, 64, 65, 66, 67, 68, 83, 84, 85, 86, 87, 88, 89, 90] (by decide +kernel) (by decide +kernel)
set_option maxRecDepth 20000 in
theorem gX4_tryPour_X3_addFloor : GoodIn wsX4_tryPour (wsV RX4 178 RX3 yX3_addFloor wsX3_addFloor) := goodIn_app (goodIn_of _ (by decide +kernel)) ggX4_tryPour_X3_addFloor
set_option maxRecDepth 20000 in
theorem ggX4_tryPour_X3_isSafe : GoodIn wsX4_tryPour wsX3_isSafe := goodIn_r _ [72, 73, 74, 75, 7, 76, 10, 13, 52, 53, 54, 55, 12, 9, 48, 49, 50, 51, 14, 11, 56, 57, 58, 59, 60, 83, 84, 85, 86, 87, 88, 89, 90] (by decide +kernel) (by decide +kernel)
set_option maxRecDepth 20000 in
theorem gX4_tryPour_X3_isSafe : GoodIn wsX4_tryPour (wsV RX4 61 RX3 yX3_isSafe wsX3_isSafe) := goodIn_app (goodIn_of _ (by decide +kernel)) ggX4_tryPour_X3_isSafe
theorem dX4_tryPour_0 : decode cX4_tryPour 0 = .ok (.aload_n 0, 1) := by decide +kernel
theorem dX4_tryPour_1 : decode cX4_tryPour 1 = .ok (.getfield 10, 3) := by decide +kernel
theorem dX4_tryPour_4 : decode cX4_tryPour 4 = .ok (.getfield 47, 3) := by decide +kernel
theorem dX4_tryPour_7 : decode cX4_tryPour 7 = .ok (.bipush 8, 2) := by decide +kernel
theorem dX4_tryPour_9 : decode cX4_tryPour 9 = .ok (.if_icmp .lt 5, 3) := by decide +kernel
theorem dX4_tryPour_12 : decode cX4_tryPour 12 = .ok (.iconst 0, 1) := by decide +kernel
theorem dX4_tryPour_13 : decode cX4_tryPour 13 = .ok (.ireturn, 1) := by decide +kernel
theorem dX4_tryPour_14 : decode cX4_tryPour 14 = .ok (.aload_n 0, 1) := by decide +kernel
theorem dX4_tryPour_15 : decode cX4_tryPour 15 = .ok (.getfield 16, 3) := by decide +kernel
theorem dX4_tryPour_18 : decode cX4_tryPour 18 = .ok (.aload_n 0, 1) := by decide +kernel
theorem dX4_tryPour_19 : decode cX4_tryPour 19 = .ok (.getfield 10, 3) := by decide +kernel
theorem dX4_tryPour_22 : decode cX4_tryPour 22 = .ok (.invokevirtual 136, 3) := by decide +kernel
theorem dX4_tryPour_25 : decode cX4_tryPour 25 = .ok (.aload_n 0, 1) := by decide +kernel
theorem dX4_tryPour_26 : decode cX4_tryPour 26 = .ok (.getfield 16, 3) := by decide +kernel
theorem dX4_tryPour_29 : decode cX4_tryPour 29 = .ok (.invokevirtual 178, 3) := by decide +kernel
theorem dX4_tryPour_32 : decode cX4_tryPour 32 = .ok (.aload_n 0, 1) := by decide +kernel
theorem dX4_tryPour_33 : decode cX4_tryPour 33 = .ok (.getfield 16, 3) := by decide +kernel
theorem dX4_tryPour_36 : decode cX4_tryPour 36 = .ok (.invokevirtual 61, 3) := by decide +kernel
theorem dX4_tryPour_39 : decode cX4_tryPour 39 = .ok (.ireturn, 1) := by decide +kernel
set_option maxRecDepth 20000 in
theorem ggX4_tryStrike_X3_has : GoodIn wsX4_tryStrike wsX3_has := goodIn_r _ [8, 9, 89, 90, 91, 92, 93, 94, 95, 96] (by decide +kernel) (by decide +kernel)
set_option maxRecDepth 20000 in
theorem gX4_tryStrike_X3_has : GoodIn wsX4_tryStrike (wsV RX4 68 RX3 yX3_has wsX3_has) := goodIn_app (goodIn_of _ (by decide +kernel)) ggX4_tryStrike_X3_has
set_option maxRecDepth 20000 in
theorem ggX4_tryStrike_X3_isPropped : GoodIn wsX4_tryStrike wsX3_isPropped := goodIn_r _ [13, 14, 89, 90, 91, 92, 93, 94, 95, 96] (by decide +kernel) (by decide +kernel)
set_option maxRecDepth 20000 in
theorem gX4_tryStrike_X3_isPropped : GoodIn wsX4_tryStrike (wsV RX4 98 RX3 yX3_isPropped wsX3_isPropped) := goodIn_app (goodIn_of _ (by decide +kernel)) ggX4_tryStrike_X3_isPropped
set_option maxRecDepth 20000 in
theorem ggX4_tryStrike_X3_copyFrom : GoodIn wsX4_tryStrike wsX3_copyFrom := goodIn_r _ [18, 19, 9, 20, 21, 22, 23, 14, 89, 90, 91, 92, 93, 94, 95, 96] (by decide +kernel) (by decide +kernel)
set_option maxRecDepth 20000 in
theorem gX4_tryStrike_X3_copyFrom : GoodIn wsX4_tryStrike (wsV RX4 136 RX3 yX3_copyFrom wsX3_copyFrom) := goodIn_app (goodIn_of _ (by decide +kernel)) ggX4_tryStrike_X3_copyFrom
set_option maxRecDepth 20000 in
theorem ggX4_tryStrike_X3_takeProps : GoodIn wsX4_tryStrike wsX3_takeProps := goodIn_r _ [27, 14, 28, 5, 6, 7, 8, 9, 29, 30, 31, 32, 19, 22, 33, 11, 12, 13, 34, 35, 36, 37, 38, 39, 40, 41, 42, 43, 44, 45, 46, 47, 48, 49, 50, 51, 52, 53, 54, 55, 56, 57, 23, 20, 58, 59, 60, 61, 21, 62, 63, 64, 65, 66, 67, 68, 69, 70, 71, 72, 73, 74, 89, 90, 91, 92, 93, 94, 95, 96] (by decide +kernel) (by decide +kernel)
set_option maxRecDepth 20000 in
theorem gX4_tryStrike_X3_takeProps : GoodIn wsX4_tryStrike (wsV RX4 181 RX3 yX3_takeProps wsX3_takeProps) := goodIn_app (goodIn_of _ (by decide +kernel)) ggX4_tryStrike_X3_takeProps
set_option maxRecDepth 20000 in
theorem ggX4_tryStrike_X3_isSafe : GoodIn wsX4_tryStrike wsX3_isSafe := goodIn_r _ [78, 79, 80, 81, 7, 82, 9, 22, 58, 59, 60, 61, 21, 19, 54, 55, 56, 57, 23, 20, 62, 63, 64, 65, 66, 89, 90, 91, 92, 93, 94, 95, 96] (by decide +kernel) (by decide +kernel)
set_option maxRecDepth 20000 in
theorem gX4_tryStrike_X3_isSafe : GoodIn wsX4_tryStrike (wsV RX4 61 RX3 yX3_isSafe wsX3_isSafe) := goodIn_app (goodIn_of _ (by decide +kernel)) ggX4_tryStrike_X3_isSafe
theorem dX4_tryStrike_0 : decode cX4_tryStrike 0 = .ok (.aload_n 0, 1) := by decide +kernel
theorem dX4_tryStrike_1 : decode cX4_tryStrike 1 = .ok (.getfield 10, 3) := by decide +kernel
theorem dX4_tryStrike_4 : decode cX4_tryStrike 4 = .ok (.iload_n 1, 1) := by decide +kernel
theorem dX4_tryStrike_5 : decode cX4_tryStrike 5 = .ok (.invokevirtual 68, 3) := by decide +kernel
theorem dX4_tryStrike_8 : decode cX4_tryStrike 8 = .ok (.ifCond .eq 14, 3) := by decide +kernel
theorem dX4_tryStrike_11 : decode cX4_tryStrike 11 = .ok (.aload_n 0, 1) := by decide +kernel
theorem dX4_tryStrike_12 : decode cX4_tryStrike 12 = .ok (.getfield 10, 3) := by decide +kernel
theorem dX4_tryStrike_15 : decode cX4_tryStrike 15 = .ok (.iload_n 1, 1) := by decide +kernel
theorem dX4_tryStrike_16 : decode cX4_tryStrike 16 = .ok (.invokevirtual 98, 3) := by decide +kernel
theorem dX4_tryStrike_19 : decode cX4_tryStrike 19 = .ok (.ifCond .ne 5, 3) := by decide +kernel
theorem dX4_tryStrike_22 : decode cX4_tryStrike 22 = .ok (.iconst 0, 1) := by decide +kernel
theorem dX4_tryStrike_23 : decode cX4_tryStrike 23 = .ok (.ireturn, 1) := by decide +kernel
theorem dX4_tryStrike_24 : decode cX4_tryStrike 24 = .ok (.aload_n 0, 1) := by decide +kernel
theorem dX4_tryStrike_25 : decode cX4_tryStrike 25 = .ok (.getfield 16, 3) := by decide +kernel
theorem dX4_tryStrike_28 : decode cX4_tryStrike 28 = .ok (.aload_n 0, 1) := by decide +kernel
theorem dX4_tryStrike_29 : decode cX4_tryStrike 29 = .ok (.getfield 10, 3) := by decide +kernel
theorem dX4_tryStrike_32 : decode cX4_tryStrike 32 = .ok (.invokevirtual 136, 3) := by decide +kernel
theorem dX4_tryStrike_35 : decode cX4_tryStrike 35 = .ok (.aload_n 0, 1) := by decide +kernel
theorem dX4_tryStrike_36 : decode cX4_tryStrike 36 = .ok (.getfield 16, 3) := by decide +kernel
theorem dX4_tryStrike_39 : decode cX4_tryStrike 39 = .ok (.dup, 1) := by decide +kernel
theorem dX4_tryStrike_40 : decode cX4_tryStrike 40 = .ok (.getfield 44, 3) := by decide +kernel
theorem dX4_tryStrike_43 : decode cX4_tryStrike 43 = .ok (.iload_n 2, 1) := by decide +kernel
theorem dX4_tryStrike_44 : decode cX4_tryStrike 44 = .ok (.iadd, 1) := by decide +kernel
theorem dX4_tryStrike_45 : decode cX4_tryStrike 45 = .ok (.putfield 44, 3) := by decide +kernel
theorem dX4_tryStrike_48 : decode cX4_tryStrike 48 = .ok (.aload_n 0, 1) := by decide +kernel
theorem dX4_tryStrike_49 : decode cX4_tryStrike 49 = .ok (.getfield 16, 3) := by decide +kernel
theorem dX4_tryStrike_52 : decode cX4_tryStrike 52 = .ok (.iload_n 1, 1) := by decide +kernel
theorem dX4_tryStrike_53 : decode cX4_tryStrike 53 = .ok (.invokevirtual 181, 3) := by decide +kernel
theorem dX4_tryStrike_56 : decode cX4_tryStrike 56 = .ok (.aload_n 0, 1) := by decide +kernel
theorem dX4_tryStrike_57 : decode cX4_tryStrike 57 = .ok (.getfield 16, 3) := by decide +kernel
theorem dX4_tryStrike_60 : decode cX4_tryStrike 60 = .ok (.invokevirtual 61, 3) := by decide +kernel
theorem dX4_tryStrike_63 : decode cX4_tryStrike 63 = .ok (.ireturn, 1) := by decide +kernel
set_option maxRecDepth 20000 in
theorem ggX4_maySet_X4_tryStrike : GoodIn wsX4_maySet wsX4_tryStrike := goodIn_r _ [7, 1, 8, 9, 10, 11, 12, 13, 14, 15, 16, 17, 18, 19, 20, 21, 22, 23, 24, 25, 26, 27, 28, 29, 30, 31, 32, 33, 34, 35, 36, 37, 38, 39, 40, 41, 42, 43, 44, 45, 46, 47, 48, 49, 50, 51, 52, 53, 54, 55, 56, 57, 58, 59, 60, 61, 62, 63, 64, 65, 66, 67, 68, 6, 69, 70, 71, 72, 73, 74, 75, 76, 77, 78, 79, 80, 81, 82, 83, 84, 85, 86, 87, 88, 89, 90, 91, 92, 93, 94, 95, 96, 97, 98, 99, 100, 101] (by decide +kernel) (by decide +kernel)
set_option maxRecDepth 20000 in
theorem gX4_maySet_X4_tryStrike : GoodIn wsX4_maySet (wsV RX4 120 RX4 yX4_tryStrike wsX4_tryStrike) := goodIn_app (goodIn_of _ (by decide +kernel)) ggX4_maySet_X4_tryStrike
theorem dX4_maySet_0 : decode cX4_maySet 0 = .ok (.iconst 0, 1) := by decide +kernel
theorem dX4_maySet_1 : decode cX4_maySet 1 = .ok (.istore_n 1, 1) := by decide +kernel
theorem dX4_maySet_2 : decode cX4_maySet 2 = .ok (.iconst 0, 1) := by decide +kernel
theorem dX4_maySet_3 : decode cX4_maySet 3 = .ok (.istore_n 2, 1) := by decide +kernel
theorem dX4_maySet_4 : decode cX4_maySet 4 = .ok (.iload_n 2, 1) := by decide +kernel
theorem dX4_maySet_5 : decode cX4_maySet 5 = .ok (.aload_n 0, 1) := by decide +kernel
theorem dX4_maySet_6 : decode cX4_maySet 6 = .ok (.getfield 10, 3) := by decide +kernel
theorem dX4_maySet_9 : decode cX4_maySet 9 = .ok (.getfield 47, 3) := by decide +kernel
theorem dX4_maySet_12 : decode cX4_maySet 12 = .ok (.if_icmp .ge 24, 3) := by decide +kernel
theorem dX4_maySet_15 : decode cX4_maySet 15 = .ok (.aload_n 0, 1) := by decide +kernel
theorem dX4_maySet_16 : decode cX4_maySet 16 = .ok (.iload_n 2, 1) := by decide +kernel
theorem dX4_maySet_17 : decode cX4_maySet 17 = .ok (.iconst 0, 1) := by decide +kernel
theorem dX4_maySet_18 : decode cX4_maySet 18 = .ok (.invokevirtual 120, 3) := by decide +kernel
theorem dX4_maySet_21 : decode cX4_maySet 21 = .ok (.ifCond .eq 9, 3) := by decide +kernel
theorem dX4_maySet_24 : decode cX4_maySet 24 = .ok (.iload_n 1, 1) := by decide +kernel
theorem dX4_maySet_25 : decode cX4_maySet 25 = .ok (.iconst 1, 1) := by decide +kernel
theorem dX4_maySet_26 : decode cX4_maySet 26 = .ok (.iload_n 2, 1) := by decide +kernel
theorem dX4_maySet_27 : decode cX4_maySet 27 = .ok (.ishl, 1) := by decide +kernel
theorem dX4_maySet_28 : decode cX4_maySet 28 = .ok (.ior, 1) := by decide +kernel
theorem dX4_maySet_29 : decode cX4_maySet 29 = .ok (.istore_n 1, 1) := by decide +kernel
theorem dX4_maySet_30 : decode cX4_maySet 30 = .ok (.iinc 2 1, 3) := by decide +kernel
theorem dX4_maySet_33 : decode cX4_maySet 33 = .ok (.goto (-29), 3) := by decide +kernel
theorem dX4_maySet_36 : decode cX4_maySet 36 = .ok (.iload_n 1, 1) := by decide +kernel
theorem dX4_maySet_37 : decode cX4_maySet 37 = .ok (.ireturn, 1) := by decide +kernel
set_option maxRecDepth 20000 in
theorem ggX4_earliestFor_X3_isPropped : GoodIn wsX4_earliestFor wsX3_isPropped := goodIn_r _ [6, 7, 93, 94, 95, 96, 97, 98, 99, 100] (by decide +kernel) (by decide +kernel)
set_option maxRecDepth 20000 in
theorem gX4_earliestFor_X3_isPropped : GoodIn wsX4_earliestFor (wsV RX4 98 RX3 yX3_isPropped wsX3_isPropped) := goodIn_app (goodIn_of _ (by decide +kernel)) ggX4_earliestFor_X3_isPropped
set_option maxRecDepth 20000 in
theorem ggX4_earliestFor_X4_tryStrike : GoodIn wsX4_earliestFor wsX4_tryStrike := goodIn_r _ [12, 1, 13, 14, 15, 16, 17, 5, 18, 19, 2, 3, 4, 6, 7, 20, 21, 22, 23, 24, 25, 26, 27, 28, 29, 30, 31, 32, 33, 34, 35, 36, 37, 38, 39, 40, 41, 42, 43, 44, 45, 46, 47, 48, 49, 50, 51, 52, 53, 54, 55, 56, 57, 58, 59, 60, 61, 62, 63, 64, 65, 66, 67, 11, 68, 69, 70, 71, 72, 73, 74, 75, 76, 77, 78, 79, 80, 81, 82, 83, 84, 85, 86, 87, 88, 89, 90, 91, 92, 93, 94, 95, 96, 97, 98, 99, 100] (by decide +kernel) (by decide +kernel)
set_option maxRecDepth 20000 in
theorem gX4_earliestFor_X4_tryStrike : GoodIn wsX4_earliestFor (wsV RX4 120 RX4 yX4_tryStrike wsX4_tryStrike) := goodIn_app (goodIn_of _ (by decide +kernel)) ggX4_earliestFor_X4_tryStrike
theorem dX4_earliestFor_0 : decode cX4_earliestFor 0 = .ok (.aload_n 0, 1) := by decide +kernel
theorem dX4_earliestFor_1 : decode cX4_earliestFor 1 = .ok (.getfield 10, 3) := by decide +kernel
theorem dX4_earliestFor_4 : decode cX4_earliestFor 4 = .ok (.iload_n 1, 1) := by decide +kernel
theorem dX4_earliestFor_5 : decode cX4_earliestFor 5 = .ok (.invokevirtual 98, 3) := by decide +kernel
theorem dX4_earliestFor_8 : decode cX4_earliestFor 8 = .ok (.ifCond .ne 5, 3) := by decide +kernel
theorem dX4_earliestFor_11 : decode cX4_earliestFor 11 = .ok (.iconst (-1), 1) := by decide +kernel
theorem dX4_earliestFor_12 : decode cX4_earliestFor 12 = .ok (.ireturn, 1) := by decide +kernel
theorem dX4_earliestFor_13 : decode cX4_earliestFor 13 = .ok (.iconst 0, 1) := by decide +kernel
theorem dX4_earliestFor_14 : decode cX4_earliestFor 14 = .ok (.istore_n 2, 1) := by decide +kernel
theorem dX4_earliestFor_15 : decode cX4_earliestFor 15 = .ok (.iload_n 2, 1) := by decide +kernel
theorem dX4_earliestFor_16 : decode cX4_earliestFor 16 = .ok (.bipush 60, 2) := by decide +kernel
theorem dX4_earliestFor_18 : decode cX4_earliestFor 18 = .ok (.if_icmp .gt 20, 3) := by decide +kernel
theorem dX4_earliestFor_21 : decode cX4_earliestFor 21 = .ok (.aload_n 0, 1) := by decide +kernel
theorem dX4_earliestFor_22 : decode cX4_earliestFor 22 = .ok (.iload_n 1, 1) := by decide +kernel
theorem dX4_earliestFor_23 : decode cX4_earliestFor 23 = .ok (.iload_n 2, 1) := by decide +kernel
theorem dX4_earliestFor_24 : decode cX4_earliestFor 24 = .ok (.invokevirtual 120, 3) := by decide +kernel
theorem dX4_earliestFor_27 : decode cX4_earliestFor 27 = .ok (.ifCond .eq 5, 3) := by decide +kernel
theorem dX4_earliestFor_30 : decode cX4_earliestFor 30 = .ok (.iload_n 2, 1) := by decide +kernel
theorem dX4_earliestFor_31 : decode cX4_earliestFor 31 = .ok (.ireturn, 1) := by decide +kernel
theorem dX4_earliestFor_32 : decode cX4_earliestFor 32 = .ok (.iinc 2 1, 3) := by decide +kernel
theorem dX4_earliestFor_35 : decode cX4_earliestFor 35 = .ok (.goto (-20), 3) := by decide +kernel
theorem dX4_earliestFor_38 : decode cX4_earliestFor 38 = .ok (.iconst (-1), 1) := by decide +kernel
theorem dX4_earliestFor_39 : decode cX4_earliestFor 39 = .ok (.ireturn, 1) := by decide +kernel
set_option maxRecDepth 20000 in
theorem ggX4_harmOf_X3_isPropped : GoodIn wsX4_harmOf wsX3_isPropped := goodIn_r _ [7, 8, 97, 98, 99, 100, 101, 102, 103, 104] (by decide +kernel) (by decide +kernel)
set_option maxRecDepth 20000 in
theorem gX4_harmOf_X3_isPropped : GoodIn wsX4_harmOf (wsV RX4 98 RX3 yX3_isPropped wsX3_isPropped) := goodIn_app (goodIn_of _ (by decide +kernel)) ggX4_harmOf_X3_isPropped
set_option maxRecDepth 20000 in
theorem ggX4_harmOf_X4_tryStrike : GoodIn wsX4_harmOf wsX4_tryStrike := goodIn_r _ [13, 1, 2, 14, 15, 16, 17, 6, 18, 19, 3, 4, 5, 7, 8, 20, 21, 22, 23, 24, 25, 26, 27, 28, 29, 30, 31, 32, 33, 34, 35, 36, 37, 38, 39, 40, 41, 42, 43, 44, 45, 46, 47, 48, 49, 50, 51, 52, 53, 54, 55, 56, 57, 58, 59, 60, 61, 62, 63, 64, 65, 66, 67, 12, 68, 69, 70, 71, 72, 73, 74, 75, 76, 77, 78, 79, 80, 81, 82, 83, 84, 85, 86, 91, 92, 93, 94, 95, 96, 97, 98, 99, 100, 101, 102, 103, 104] (by decide +kernel) (by decide +kernel)
set_option maxRecDepth 20000 in
theorem gX4_harmOf_X4_tryStrike : GoodIn wsX4_harmOf (wsV RX4 120 RX4 yX4_tryStrike wsX4_tryStrike) := goodIn_app (goodIn_of _ (by decide +kernel)) ggX4_harmOf_X4_tryStrike
set_option maxRecDepth 20000 in
theorem ggX4_harmOf_X3_greatestExcess : GoodIn wsX4_harmOf wsX3_greatestExcess := goodIn_r _ [90, 27, 19, 52, 53, 50, 54, 63, 64, 65, 6, 66, 26, 24, 59, 60, 61, 62, 28, 25, 67, 12, 68, 69, 70, 97, 98, 99, 100, 101, 102, 103, 104] (by decide +kernel) (by decide +kernel)
set_option maxRecDepth 20000 in
theorem gX4_harmOf_X3_greatestExcess : GoodIn wsX4_harmOf (wsV RX4 184 RX3 yX3_greatestExcess wsX3_greatestExcess) := goodIn_app (goodIn_of _ (by decide +kernel)) ggX4_harmOf_X3_greatestExcess
theorem dX4_harmOf_0 : decode cX4_harmOf 0 = .ok (.aload_n 0, 1) := by decide +kernel
theorem dX4_harmOf_1 : decode cX4_harmOf 1 = .ok (.getfield 10, 3) := by decide +kernel
theorem dX4_harmOf_4 : decode cX4_harmOf 4 = .ok (.iload_n 1, 1) := by decide +kernel
theorem dX4_harmOf_5 : decode cX4_harmOf 5 = .ok (.invokevirtual 98, 3) := by decide +kernel
theorem dX4_harmOf_8 : decode cX4_harmOf 8 = .ok (.ifCond .ne 5, 3) := by decide +kernel
theorem dX4_harmOf_11 : decode cX4_harmOf 11 = .ok (.iconst (-1), 1) := by decide +kernel
theorem dX4_harmOf_12 : decode cX4_harmOf 12 = .ok (.ireturn, 1) := by decide +kernel
theorem dX4_harmOf_13 : decode cX4_harmOf 13 = .ok (.aload_n 0, 1) := by decide +kernel
theorem dX4_harmOf_14 : decode cX4_harmOf 14 = .ok (.iload_n 1, 1) := by decide +kernel
theorem dX4_harmOf_15 : decode cX4_harmOf 15 = .ok (.iconst 0, 1) := by decide +kernel
theorem dX4_harmOf_16 : decode cX4_harmOf 16 = .ok (.invokevirtual 120, 3) := by decide +kernel
theorem dX4_harmOf_19 : decode cX4_harmOf 19 = .ok (.pop, 1) := by decide +kernel
theorem dX4_harmOf_20 : decode cX4_harmOf 20 = .ok (.aload_n 0, 1) := by decide +kernel
theorem dX4_harmOf_21 : decode cX4_harmOf 21 = .ok (.getfield 16, 3) := by decide +kernel
theorem dX4_harmOf_24 : decode cX4_harmOf 24 = .ok (.invokevirtual 184, 3) := by decide +kernel
theorem dX4_harmOf_27 : decode cX4_harmOf 27 = .ok (.sipush 1000, 3) := by decide +kernel
theorem dX4_harmOf_30 : decode cX4_harmOf 30 = .ok (.iadd, 1) := by decide +kernel
theorem dX4_harmOf_31 : decode cX4_harmOf 31 = .ok (.ireturn, 1) := by decide +kernel
set_option maxRecDepth 20000 in
theorem ggX4_cycleHolds_X3_copyFrom : GoodIn wsX4_cycleHolds wsX3_copyFrom := goodIn_r _ [9, 10, 11, 12, 13, 14, 15, 16, 111, 112, 113, 114, 115, 116, 117, 118] (by decide +kernel) (by decide +kernel)
set_option maxRecDepth 20000 in
theorem gX4_cycleHolds_X3_copyFrom : GoodIn wsX4_cycleHolds (wsV RX4 136 RX3 yX3_copyFrom wsX3_copyFrom) := goodIn_app (goodIn_of _ (by decide +kernel)) ggX4_cycleHolds_X3_copyFrom
set_option maxRecDepth 20000 in
theorem ggX4_cycleHolds_X3_empty : GoodIn wsX4_cycleHolds wsX3_empty := goodIn_r _ [20, 15, 11, 16, 111, 112, 113, 114, 115, 116, 117, 118] (by decide +kernel) (by decide +kernel)
set_option maxRecDepth 20000 in
theorem gX4_cycleHolds_X3_empty : GoodIn wsX4_cycleHolds (wsV RX4 149 RX3 yX3_empty wsX3_empty) := goodIn_app (goodIn_of _ (by decide +kernel)) ggX4_cycleHolds_X3_empty
set_option maxRecDepth 20000 in
theorem ggX4_cycleHolds_J6_bitCount_0f7a4 : GoodIn wsX4_cycleHolds wsJ6_bitCount_0f7a4 := goodIn_r _ [24, 25, 26, 27] (by decide +kernel) (by decide +kernel)
set_option maxRecDepth 20000 in
theorem gX4_cycleHolds_J6_bitCount_0f7a4 : GoodIn wsX4_cycleHolds (va_wsS RX4 187 yJ6_bitCount_0f7a4 wsJ6_bitCount_0f7a4) := goodIn_app (goodIn_of _ (by decide +kernel)) ggX4_cycleHolds_J6_bitCount_0f7a4
set_option maxRecDepth 20000 in
theorem ggX4_cycleHolds_X3_lowestPropped : GoodIn wsX4_cycleHolds wsX3_lowestPropped := goodIn_r _ [31, 11, 32, 33, 34, 8, 35, 16, 111, 112, 113, 114, 115, 116, 117, 118] (by decide +kernel) (by decide +kernel)
set_option maxRecDepth 20000 in
theorem gX4_cycleHolds_X3_lowestPropped : GoodIn wsX4_cycleHolds (wsV RX4 192 RX3 yX3_lowestPropped wsX3_lowestPropped) := goodIn_app (goodIn_of _ (by decide +kernel)) ggX4_cycleHolds_X3_lowestPropped
set_option maxRecDepth 20000 in
theorem ggX4_cycleHolds_X3_takeProps : GoodIn wsX4_cycleHolds wsX3_takeProps := goodIn_r _ [39, 16, 40, 41, 42, 8, 43, 11, 44, 45, 46, 47, 10, 14, 32, 33, 34, 35, 48, 49, 50, 51, 52, 53, 54, 55, 56, 57, 58, 59, 60, 61, 62, 63, 64, 65, 66, 67, 68, 69, 70, 71, 15, 12, 72, 73, 74, 75, 13, 76, 77, 78, 79, 80, 81, 82, 83, 84, 85, 86, 87, 88, 111, 112, 113, 114, 115, 116, 117, 118] (by decide +kernel) (by decide +kernel)
set_option maxRecDepth 20000 in
theorem gX4_cycleHolds_X3_takeProps : GoodIn wsX4_cycleHolds (wsV RX4 181 RX3 yX3_takeProps wsX3_takeProps) := goodIn_app (goodIn_of _ (by decide +kernel)) ggX4_cycleHolds_X3_takeProps
set_option maxRecDepth 20000 in
theorem ggX4_cycleHolds_X3_isSafe : GoodIn wsX4_cycleHolds wsX3_isSafe := goodIn_r _ [92, 93, 94, 95, 8, 96, 11, 14, 72, 73, 74, 75, 13, 10, 68, 69, 70, 71, 15, 12, 76, 77, 78, 79, 80, 111, 112, 113, 114, 115, 116, 117, 118] (by decide +kernel) (by decide +kernel)
set_option maxRecDepth 20000 in
theorem gX4_cycleHolds_X3_isSafe : GoodIn wsX4_cycleHolds (wsV RX4 61 RX3 yX3_isSafe wsX3_isSafe) := goodIn_app (goodIn_of _ (by decide +kernel)) ggX4_cycleHolds_X3_isSafe
set_option maxRecDepth 20000 in
theorem ggX4_cycleHolds_X3_addFloor : GoodIn wsX4_cycleHolds wsX3_addFloor := goodIn_r _ [100, 11, 12, 15, 13, 14, 10, 101, 102, 103, 8, 104, 16, 52, 53, 54, 55, 56, 57, 58, 59, 60, 61, 62, 63, 64, 65, 66, 67, 32, 33, 34, 35, 48, 49, 50, 51, 68, 69, 70, 71, 72, 73, 74, 75, 76, 77, 78, 79, 80, 81, 82, 83, 84, 85, 86, 87, 88, 111, 112, 113, 114, 115, 116, 117, 118] (by decide +kernel) (by decide +kernel)
set_option maxRecDepth 20000 in
theorem gX4_cycleHolds_X3_addFloor : GoodIn wsX4_cycleHolds (wsV RX4 178 RX3 yX3_addFloor wsX3_addFloor) := goodIn_app (goodIn_of _ (by decide +kernel)) ggX4_cycleHolds_X3_addFloor
theorem dX4_cycleHolds_0 : decode cX4_cycleHolds 0 = .ok (.aload_n 0, 1) := by decide +kernel
theorem dX4_cycleHolds_1 : decode cX4_cycleHolds 1 = .ok (.getfield 16, 3) := by decide +kernel
theorem dX4_cycleHolds_4 : decode cX4_cycleHolds 4 = .ok (.aload_n 0, 1) := by decide +kernel
theorem dX4_cycleHolds_5 : decode cX4_cycleHolds 5 = .ok (.getfield 10, 3) := by decide +kernel
theorem dX4_cycleHolds_8 : decode cX4_cycleHolds 8 = .ok (.invokevirtual 136, 3) := by decide +kernel
theorem dX4_cycleHolds_11 : decode cX4_cycleHolds 11 = .ok (.aload_n 0, 1) := by decide +kernel
theorem dX4_cycleHolds_12 : decode cX4_cycleHolds 12 = .ok (.getfield 16, 3) := by decide +kernel
theorem dX4_cycleHolds_15 : decode cX4_cycleHolds 15 = .ok (.invokevirtual 149, 3) := by decide +kernel
theorem dX4_cycleHolds_18 : decode cX4_cycleHolds 18 = .ok (.iconst 0, 1) := by decide +kernel
theorem dX4_cycleHolds_19 : decode cX4_cycleHolds 19 = .ok (.istore_n 3, 1) := by decide +kernel
theorem dX4_cycleHolds_20 : decode cX4_cycleHolds 20 = .ok (.iload_n 3, 1) := by decide +kernel
theorem dX4_cycleHolds_21 : decode cX4_cycleHolds 21 = .ok (.bipush 8, 2) := by decide +kernel
theorem dX4_cycleHolds_23 : decode cX4_cycleHolds 23 = .ok (.if_icmp .ge 78, 3) := by decide +kernel
theorem dX4_cycleHolds_26 : decode cX4_cycleHolds 26 = .ok (.aload_n 0, 1) := by decide +kernel
theorem dX4_cycleHolds_27 : decode cX4_cycleHolds 27 = .ok (.getfield 16, 3) := by decide +kernel
theorem dX4_cycleHolds_30 : decode cX4_cycleHolds 30 = .ok (.iload_n 3, 1) := by decide +kernel
theorem dX4_cycleHolds_31 : decode cX4_cycleHolds 31 = .ok (.iload_n 2, 1) := by decide +kernel
theorem dX4_cycleHolds_32 : decode cX4_cycleHolds 32 = .ok (.imul, 1) := by decide +kernel
theorem dX4_cycleHolds_33 : decode cX4_cycleHolds 33 = .ok (.putfield 44, 3) := by decide +kernel
theorem dX4_cycleHolds_36 : decode cX4_cycleHolds 36 = .ok (.aload_n 0, 1) := by decide +kernel
theorem dX4_cycleHolds_37 : decode cX4_cycleHolds 37 = .ok (.getfield 16, 3) := by decide +kernel
theorem dX4_cycleHolds_40 : decode cX4_cycleHolds 40 = .ok (.getfield 54, 3) := by decide +kernel
theorem dX4_cycleHolds_43 : decode cX4_cycleHolds 43 = .ok (.invokestatic 187, 3) := by decide +kernel
theorem dX4_cycleHolds_46 : decode cX4_cycleHolds 46 = .ok (.iload_n 1, 1) := by decide +kernel
theorem dX4_cycleHolds_47 : decode cX4_cycleHolds 47 = .ok (.if_icmp .ne 29, 3) := by decide +kernel
theorem dX4_cycleHolds_50 : decode cX4_cycleHolds 50 = .ok (.aload_n 0, 1) := by decide +kernel
theorem dX4_cycleHolds_51 : decode cX4_cycleHolds 51 = .ok (.getfield 16, 3) := by decide +kernel
theorem dX4_cycleHolds_54 : decode cX4_cycleHolds 54 = .ok (.aload_n 0, 1) := by decide +kernel
theorem dX4_cycleHolds_55 : decode cX4_cycleHolds 55 = .ok (.getfield 16, 3) := by decide +kernel
theorem dX4_cycleHolds_58 : decode cX4_cycleHolds 58 = .ok (.invokevirtual 192, 3) := by decide +kernel
theorem dX4_cycleHolds_61 : decode cX4_cycleHolds 61 = .ok (.invokevirtual 181, 3) := by decide +kernel
theorem dX4_cycleHolds_64 : decode cX4_cycleHolds 64 = .ok (.aload_n 0, 1) := by decide +kernel
theorem dX4_cycleHolds_65 : decode cX4_cycleHolds 65 = .ok (.getfield 16, 3) := by decide +kernel
theorem dX4_cycleHolds_68 : decode cX4_cycleHolds 68 = .ok (.invokevirtual 61, 3) := by decide +kernel
theorem dX4_cycleHolds_71 : decode cX4_cycleHolds 71 = .ok (.ifCond .ne 5, 3) := by decide +kernel
theorem dX4_cycleHolds_74 : decode cX4_cycleHolds 74 = .ok (.iconst 0, 1) := by decide +kernel
theorem dX4_cycleHolds_75 : decode cX4_cycleHolds 75 = .ok (.ireturn, 1) := by decide +kernel
theorem dX4_cycleHolds_76 : decode cX4_cycleHolds 76 = .ok (.aload_n 0, 1) := by decide +kernel
theorem dX4_cycleHolds_77 : decode cX4_cycleHolds 77 = .ok (.getfield 16, 3) := by decide +kernel
theorem dX4_cycleHolds_80 : decode cX4_cycleHolds 80 = .ok (.invokevirtual 178, 3) := by decide +kernel
theorem dX4_cycleHolds_83 : decode cX4_cycleHolds 83 = .ok (.aload_n 0, 1) := by decide +kernel
theorem dX4_cycleHolds_84 : decode cX4_cycleHolds 84 = .ok (.getfield 16, 3) := by decide +kernel
theorem dX4_cycleHolds_87 : decode cX4_cycleHolds 87 = .ok (.invokevirtual 61, 3) := by decide +kernel
theorem dX4_cycleHolds_90 : decode cX4_cycleHolds 90 = .ok (.ifCond .ne 5, 3) := by decide +kernel
theorem dX4_cycleHolds_93 : decode cX4_cycleHolds 93 = .ok (.iconst 0, 1) := by decide +kernel
theorem dX4_cycleHolds_94 : decode cX4_cycleHolds 94 = .ok (.ireturn, 1) := by decide +kernel
theorem dX4_cycleHolds_95 : decode cX4_cycleHolds 95 = .ok (.iinc 3 1, 3) := by decide +kernel
theorem dX4_cycleHolds_98 : decode cX4_cycleHolds 98 = .ok (.goto (-78), 3) := by decide +kernel
theorem dX4_cycleHolds_101 : decode cX4_cycleHolds 101 = .ok (.iconst 1, 1) := by decide +kernel
theorem dX4_cycleHolds_102 : decode cX4_cycleHolds 102 = .ok (.ireturn, 1) := by decide +kernel
theorem dX4_nextDraw_0 : decode cX4_nextDraw 0 = .ok (.aload_n 0, 1) := by decide +kernel
theorem dX4_nextDraw_1 : decode cX4_nextDraw 1 = .ok (.aload_n 0, 1) := by decide +kernel
theorem dX4_nextDraw_2 : decode cX4_nextDraw 2 = .ok (.getfield 39, 3) := by decide +kernel
theorem dX4_nextDraw_5 : decode cX4_nextDraw 5 = .ok (.ldc 195, 2) := by decide +kernel
theorem dX4_nextDraw_7 : decode cX4_nextDraw 7 = .ok (.imul, 1) := by decide +kernel
theorem dX4_nextDraw_8 : decode cX4_nextDraw 8 = .ok (.sipush 12345, 3) := by decide +kernel
theorem dX4_nextDraw_11 : decode cX4_nextDraw 11 = .ok (.iadd, 1) := by decide +kernel
theorem dX4_nextDraw_12 : decode cX4_nextDraw 12 = .ok (.ldc 196, 2) := by decide +kernel
theorem dX4_nextDraw_14 : decode cX4_nextDraw 14 = .ok (.iand, 1) := by decide +kernel
theorem dX4_nextDraw_15 : decode cX4_nextDraw 15 = .ok (.putfield 39, 3) := by decide +kernel
theorem dX4_nextDraw_18 : decode cX4_nextDraw 18 = .ok (.aload_n 0, 1) := by decide +kernel
theorem dX4_nextDraw_19 : decode cX4_nextDraw 19 = .ok (.getfield 39, 3) := by decide +kernel
theorem dX4_nextDraw_22 : decode cX4_nextDraw 22 = .ok (.ldc 197, 2) := by decide +kernel
theorem dX4_nextDraw_24 : decode cX4_nextDraw 24 = .ok (.idiv, 1) := by decide +kernel
theorem dX4_nextDraw_25 : decode cX4_nextDraw 25 = .ok (.ireturn, 1) := by decide +kernel
theorem dX4_percentAt_0 : decode cX4_percentAt 0 = .ok (.iload_n 1, 1) := by decide +kernel
theorem dX4_percentAt_1 : decode cX4_percentAt 1 = .ok (.ifCond .gt 5, 3) := by decide +kernel
theorem dX4_percentAt_4 : decode cX4_percentAt 4 = .ok (.iconst 0, 1) := by decide +kernel
theorem dX4_percentAt_5 : decode cX4_percentAt 5 = .ok (.ireturn, 1) := by decide +kernel
theorem dX4_percentAt_6 : decode cX4_percentAt 6 = .ok (.iload_n 0, 1) := by decide +kernel
theorem dX4_percentAt_7 : decode cX4_percentAt 7 = .ok (.lookupswitch 56 #[(0, 25), (1, 40)], 25) := by decide +kernel
theorem dX4_percentAt_32 : decode cX4_percentAt 32 = .ok (.ldc2_w 198, 3) := by decide +kernel
theorem dX4_percentAt_35 : decode cX4_percentAt 35 = .ok (.iload_n 1, 1) := by decide +kernel
theorem dX4_percentAt_36 : decode cX4_percentAt 36 = .ok (.i2l, 1) := by decide +kernel
theorem dX4_percentAt_37 : decode cX4_percentAt 37 = .ok (.lmul, 1) := by decide +kernel
theorem dX4_percentAt_38 : decode cX4_percentAt 38 = .ok (.iload_n 1, 1) := by decide +kernel
theorem dX4_percentAt_39 : decode cX4_percentAt 39 = .ok (.i2l, 1) := by decide +kernel
theorem dX4_percentAt_40 : decode cX4_percentAt 40 = .ok (.ldc2_w 200, 3) := by decide +kernel
theorem dX4_percentAt_43 : decode cX4_percentAt 43 = .ok (.ladd, 1) := by decide +kernel
theorem dX4_percentAt_44 : decode cX4_percentAt 44 = .ok (.ldiv, 1) := by decide +kernel
theorem dX4_percentAt_45 : decode cX4_percentAt 45 = .ok (.l2i, 1) := by decide +kernel
theorem dX4_percentAt_46 : decode cX4_percentAt 46 = .ok (.ireturn, 1) := by decide +kernel
theorem dX4_percentAt_47 : decode cX4_percentAt 47 = .ok (.iload_n 1, 1) := by decide +kernel
theorem dX4_percentAt_48 : decode cX4_percentAt 48 = .ok (.bipush 10, 2) := by decide +kernel
theorem dX4_percentAt_50 : decode cX4_percentAt 50 = .ok (.if_icmp .lt 8, 3) := by decide +kernel
theorem dX4_percentAt_53 : decode cX4_percentAt 53 = .ok (.bipush 100, 2) := by decide +kernel
theorem dX4_percentAt_55 : decode cX4_percentAt 55 = .ok (.goto 7, 3) := by decide +kernel
theorem dX4_percentAt_58 : decode cX4_percentAt 58 = .ok (.bipush 10, 2) := by decide +kernel
theorem dX4_percentAt_60 : decode cX4_percentAt 60 = .ok (.iload_n 1, 1) := by decide +kernel
theorem dX4_percentAt_61 : decode cX4_percentAt 61 = .ok (.imul, 1) := by decide +kernel
theorem dX4_percentAt_62 : decode cX4_percentAt 62 = .ok (.ireturn, 1) := by decide +kernel
theorem dX4_percentAt_63 : decode cX4_percentAt 63 = .ok (.bipush 20, 2) := by decide +kernel
theorem dX4_percentAt_65 : decode cX4_percentAt 65 = .ok (.istore_n 2, 1) := by decide +kernel
theorem dX4_percentAt_66 : decode cX4_percentAt 66 = .ok (.iload_n 1, 1) := by decide +kernel
theorem dX4_percentAt_67 : decode cX4_percentAt 67 = .ok (.istore_n 3, 1) := by decide +kernel
theorem dX4_percentAt_68 : decode cX4_percentAt 68 = .ok (.iconst 0, 1) := by decide +kernel
theorem dX4_percentAt_69 : decode cX4_percentAt 69 = .ok (.istore 4, 2) := by decide +kernel
theorem dX4_percentAt_71 : decode cX4_percentAt 71 = .ok (.iload 4, 2) := by decide +kernel
theorem dX4_percentAt_73 : decode cX4_percentAt 73 = .ok (.iconst 4, 1) := by decide +kernel
theorem dX4_percentAt_74 : decode cX4_percentAt 74 = .ok (.if_icmp .ge 21, 3) := by decide +kernel
theorem dX4_percentAt_77 : decode cX4_percentAt 77 = .ok (.iload_n 3, 1) := by decide +kernel
theorem dX4_percentAt_78 : decode cX4_percentAt 78 = .ok (.iconst 1, 1) := by decide +kernel
theorem dX4_percentAt_79 : decode cX4_percentAt 79 = .ok (.if_icmp .le 16, 3) := by decide +kernel
theorem dX4_percentAt_82 : decode cX4_percentAt 82 = .ok (.iload_n 3, 1) := by decide +kernel
theorem dX4_percentAt_83 : decode cX4_percentAt 83 = .ok (.iconst 2, 1) := by decide +kernel
theorem dX4_percentAt_84 : decode cX4_percentAt 84 = .ok (.idiv, 1) := by decide +kernel
theorem dX4_percentAt_85 : decode cX4_percentAt 85 = .ok (.istore_n 3, 1) := by decide +kernel
theorem dX4_percentAt_86 : decode cX4_percentAt 86 = .ok (.iinc 2 20, 3) := by decide +kernel
theorem dX4_percentAt_89 : decode cX4_percentAt 89 = .ok (.iinc 4 1, 3) := by decide +kernel
theorem dX4_percentAt_92 : decode cX4_percentAt 92 = .ok (.goto (-21), 3) := by decide +kernel
theorem dX4_percentAt_95 : decode cX4_percentAt 95 = .ok (.iload_n 2, 1) := by decide +kernel
theorem dX4_percentAt_96 : decode cX4_percentAt 96 = .ok (.ireturn, 1) := by decide +kernel
theorem dJ6_bitCount_0f7a4_0 : decode cJ6_bitCount_0f7a4 0 = .ok (.iload_n 0, 1) := by decide +kernel
theorem dJ6_bitCount_0f7a4_1 : decode cJ6_bitCount_0f7a4 1 = .ok (.iload_n 0, 1) := by decide +kernel
theorem dJ6_bitCount_0f7a4_2 : decode cJ6_bitCount_0f7a4 2 = .ok (.iconst 1, 1) := by decide +kernel
theorem dJ6_bitCount_0f7a4_3 : decode cJ6_bitCount_0f7a4 3 = .ok (.iushr, 1) := by decide +kernel
theorem dJ6_bitCount_0f7a4_4 : decode cJ6_bitCount_0f7a4 4 = .ok (.ldc_w 265, 3) := by decide +kernel
theorem dJ6_bitCount_0f7a4_7 : decode cJ6_bitCount_0f7a4 7 = .ok (.iand, 1) := by decide +kernel
theorem dJ6_bitCount_0f7a4_8 : decode cJ6_bitCount_0f7a4 8 = .ok (.isub, 1) := by decide +kernel
theorem dJ6_bitCount_0f7a4_9 : decode cJ6_bitCount_0f7a4 9 = .ok (.istore_n 0, 1) := by decide +kernel
theorem dJ6_bitCount_0f7a4_10 : decode cJ6_bitCount_0f7a4 10 = .ok (.iload_n 0, 1) := by decide +kernel
theorem dJ6_bitCount_0f7a4_11 : decode cJ6_bitCount_0f7a4 11 = .ok (.ldc_w 266, 3) := by decide +kernel
theorem dJ6_bitCount_0f7a4_14 : decode cJ6_bitCount_0f7a4 14 = .ok (.iand, 1) := by decide +kernel
theorem dJ6_bitCount_0f7a4_15 : decode cJ6_bitCount_0f7a4 15 = .ok (.iload_n 0, 1) := by decide +kernel
theorem dJ6_bitCount_0f7a4_16 : decode cJ6_bitCount_0f7a4 16 = .ok (.iconst 2, 1) := by decide +kernel
theorem dJ6_bitCount_0f7a4_17 : decode cJ6_bitCount_0f7a4 17 = .ok (.iushr, 1) := by decide +kernel
theorem dJ6_bitCount_0f7a4_18 : decode cJ6_bitCount_0f7a4 18 = .ok (.ldc_w 266, 3) := by decide +kernel
theorem dJ6_bitCount_0f7a4_21 : decode cJ6_bitCount_0f7a4 21 = .ok (.iand, 1) := by decide +kernel
theorem dJ6_bitCount_0f7a4_22 : decode cJ6_bitCount_0f7a4 22 = .ok (.iadd, 1) := by decide +kernel
theorem dJ6_bitCount_0f7a4_23 : decode cJ6_bitCount_0f7a4 23 = .ok (.istore_n 0, 1) := by decide +kernel
theorem dJ6_bitCount_0f7a4_24 : decode cJ6_bitCount_0f7a4 24 = .ok (.iload_n 0, 1) := by decide +kernel
theorem dJ6_bitCount_0f7a4_25 : decode cJ6_bitCount_0f7a4 25 = .ok (.iload_n 0, 1) := by decide +kernel
theorem dJ6_bitCount_0f7a4_26 : decode cJ6_bitCount_0f7a4 26 = .ok (.iconst 4, 1) := by decide +kernel
theorem dJ6_bitCount_0f7a4_27 : decode cJ6_bitCount_0f7a4 27 = .ok (.iushr, 1) := by decide +kernel
theorem dJ6_bitCount_0f7a4_28 : decode cJ6_bitCount_0f7a4 28 = .ok (.iadd, 1) := by decide +kernel
theorem dJ6_bitCount_0f7a4_29 : decode cJ6_bitCount_0f7a4 29 = .ok (.ldc_w 267, 3) := by decide +kernel
theorem dJ6_bitCount_0f7a4_32 : decode cJ6_bitCount_0f7a4 32 = .ok (.iand, 1) := by decide +kernel
theorem dJ6_bitCount_0f7a4_33 : decode cJ6_bitCount_0f7a4 33 = .ok (.istore_n 0, 1) := by decide +kernel
theorem dJ6_bitCount_0f7a4_34 : decode cJ6_bitCount_0f7a4 34 = .ok (.iload_n 0, 1) := by decide +kernel
theorem dJ6_bitCount_0f7a4_35 : decode cJ6_bitCount_0f7a4 35 = .ok (.iload_n 0, 1) := by decide +kernel
theorem dJ6_bitCount_0f7a4_36 : decode cJ6_bitCount_0f7a4 36 = .ok (.bipush 8, 2) := by decide +kernel
theorem dJ6_bitCount_0f7a4_38 : decode cJ6_bitCount_0f7a4 38 = .ok (.iushr, 1) := by decide +kernel
theorem dJ6_bitCount_0f7a4_39 : decode cJ6_bitCount_0f7a4 39 = .ok (.iadd, 1) := by decide +kernel
theorem dJ6_bitCount_0f7a4_40 : decode cJ6_bitCount_0f7a4 40 = .ok (.istore_n 0, 1) := by decide +kernel
theorem dJ6_bitCount_0f7a4_41 : decode cJ6_bitCount_0f7a4 41 = .ok (.iload_n 0, 1) := by decide +kernel
theorem dJ6_bitCount_0f7a4_42 : decode cJ6_bitCount_0f7a4 42 = .ok (.iload_n 0, 1) := by decide +kernel
theorem dJ6_bitCount_0f7a4_43 : decode cJ6_bitCount_0f7a4 43 = .ok (.bipush 16, 2) := by decide +kernel
theorem dJ6_bitCount_0f7a4_45 : decode cJ6_bitCount_0f7a4 45 = .ok (.iushr, 1) := by decide +kernel
theorem dJ6_bitCount_0f7a4_46 : decode cJ6_bitCount_0f7a4 46 = .ok (.iadd, 1) := by decide +kernel
theorem dJ6_bitCount_0f7a4_47 : decode cJ6_bitCount_0f7a4 47 = .ok (.istore_n 0, 1) := by decide +kernel
theorem dJ6_bitCount_0f7a4_48 : decode cJ6_bitCount_0f7a4 48 = .ok (.iload_n 0, 1) := by decide +kernel
theorem dJ6_bitCount_0f7a4_49 : decode cJ6_bitCount_0f7a4 49 = .ok (.bipush 63, 2) := by decide +kernel
theorem dJ6_bitCount_0f7a4_51 : decode cJ6_bitCount_0f7a4 51 = .ok (.iand, 1) := by decide +kernel
theorem dJ6_bitCount_0f7a4_52 : decode cJ6_bitCount_0f7a4 52 = .ok (.ireturn, 1) := by decide +kernel
theorem dJ9_max_7cf53_0 : decode cJ9_max_7cf53 0 = .ok (.iload_n 0, 1) := by decide +kernel
theorem dJ9_max_7cf53_1 : decode cJ9_max_7cf53 1 = .ok (.iload_n 1, 1) := by decide +kernel
theorem dJ9_max_7cf53_2 : decode cJ9_max_7cf53 2 = .ok (.if_icmp .lt 7, 3) := by decide +kernel
theorem dJ9_max_7cf53_5 : decode cJ9_max_7cf53 5 = .ok (.iload_n 0, 1) := by decide +kernel
theorem dJ9_max_7cf53_6 : decode cJ9_max_7cf53 6 = .ok (.goto 4, 3) := by decide +kernel
theorem dJ9_max_7cf53_9 : decode cJ9_max_7cf53 9 = .ok (.iload_n 1, 1) := by decide +kernel
theorem dJ9_max_7cf53_10 : decode cJ9_max_7cf53 10 = .ok (.ireturn, 1) := by decide +kernel
theorem dJ9_min_7cf53_0 : decode cJ9_min_7cf53 0 = .ok (.iload_n 0, 1) := by decide +kernel
theorem dJ9_min_7cf53_1 : decode cJ9_min_7cf53 1 = .ok (.iload_n 1, 1) := by decide +kernel
theorem dJ9_min_7cf53_2 : decode cJ9_min_7cf53 2 = .ok (.if_icmp .gt 7, 3) := by decide +kernel
theorem dJ9_min_7cf53_5 : decode cJ9_min_7cf53 5 = .ok (.iload_n 0, 1) := by decide +kernel
theorem dJ9_min_7cf53_6 : decode cJ9_min_7cf53 6 = .ok (.goto 4, 3) := by decide +kernel
theorem dJ9_min_7cf53_9 : decode cJ9_min_7cf53 9 = .ok (.iload_n 1, 1) := by decide +kernel
theorem dJ9_min_7cf53_10 : decode cJ9_min_7cf53 10 = .ok (.ireturn, 1) := by decide +kernel
theorem dJ7_fill_53178_0 : decode cJ7_fill_53178 0 = .ok (.iconst 0, 1) := by decide +kernel
theorem dJ7_fill_53178_1 : decode cJ7_fill_53178 1 = .ok (.istore_n 2, 1) := by decide +kernel
theorem dJ7_fill_53178_2 : decode cJ7_fill_53178 2 = .ok (.aload_n 0, 1) := by decide +kernel
theorem dJ7_fill_53178_3 : decode cJ7_fill_53178 3 = .ok (.arraylength, 1) := by decide +kernel
theorem dJ7_fill_53178_4 : decode cJ7_fill_53178 4 = .ok (.istore_n 3, 1) := by decide +kernel
theorem dJ7_fill_53178_5 : decode cJ7_fill_53178 5 = .ok (.iload_n 2, 1) := by decide +kernel
theorem dJ7_fill_53178_6 : decode cJ7_fill_53178 6 = .ok (.iload_n 3, 1) := by decide +kernel
theorem dJ7_fill_53178_7 : decode cJ7_fill_53178 7 = .ok (.if_icmp .ge 13, 3) := by decide +kernel
theorem dJ7_fill_53178_10 : decode cJ7_fill_53178 10 = .ok (.aload_n 0, 1) := by decide +kernel
theorem dJ7_fill_53178_11 : decode cJ7_fill_53178 11 = .ok (.iload_n 2, 1) := by decide +kernel
theorem dJ7_fill_53178_12 : decode cJ7_fill_53178 12 = .ok (.iload_n 1, 1) := by decide +kernel
theorem dJ7_fill_53178_13 : decode cJ7_fill_53178 13 = .ok (.iastore, 1) := by decide +kernel
theorem dJ7_fill_53178_14 : decode cJ7_fill_53178 14 = .ok (.iinc 2 1, 3) := by decide +kernel
theorem dJ7_fill_53178_17 : decode cJ7_fill_53178 17 = .ok (.goto (-12), 3) := by decide +kernel
theorem dJ7_fill_53178_20 : decode cJ7_fill_53178 20 = .ok (.return_, 1) := by decide +kernel
end
section
theorem dX5_init_0 : decode cX5_init 0 = .ok (.aload_n 0, 1) := by decide +kernel
theorem dX5_init_1 : decode cX5_init 1 = .ok (.invokespecial 1, 3) := by decide +kernel
theorem dX5_init_4 : decode cX5_init 4 = .ok (.aload_n 0, 1) := by decide +kernel
theorem dX5_init_5 : decode cX5_init 5 = .ok (.bipush 38, 2) := by decide +kernel
theorem dX5_init_7 : decode cX5_init 7 = .ok (.newarray .int, 2) := by decide +kernel
theorem dX5_init_9 : decode cX5_init 9 = .ok (.putfield 7, 3) := by decide +kernel
theorem dX5_init_12 : decode cX5_init 12 = .ok (.aload_n 0, 1) := by decide +kernel
theorem dX5_init_13 : decode cX5_init 13 = .ok (.bipush 38, 2) := by decide +kernel
theorem dX5_init_15 : decode cX5_init 15 = .ok (.newarray .int, 2) := by decide +kernel
theorem dX5_init_17 : decode cX5_init 17 = .ok (.putfield 13, 3) := by decide +kernel
theorem dX5_init_20 : decode cX5_init 20 = .ok (.aload_n 0, 1) := by decide +kernel
theorem dX5_init_21 : decode cX5_init 21 = .ok (.sipush 760, 3) := by decide +kernel
theorem dX5_init_24 : decode cX5_init 24 = .ok (.newarray .int, 2) := by decide +kernel
theorem dX5_init_26 : decode cX5_init 26 = .ok (.putfield 16, 3) := by decide +kernel
theorem dX5_init_29 : decode cX5_init 29 = .ok (.aload_n 0, 1) := by decide +kernel
theorem dX5_init_30 : decode cX5_init 30 = .ok (.bipush 76, 2) := by decide +kernel
theorem dX5_init_32 : decode cX5_init 32 = .ok (.newarray .int, 2) := by decide +kernel
theorem dX5_init_34 : decode cX5_init 34 = .ok (.putfield 19, 3) := by decide +kernel
theorem dX5_init_37 : decode cX5_init 37 = .ok (.aload_n 0, 1) := by decide +kernel
theorem dX5_init_38 : decode cX5_init 38 = .ok (.iconst 2, 1) := by decide +kernel
theorem dX5_init_39 : decode cX5_init 39 = .ok (.newarray .long, 2) := by decide +kernel
theorem dX5_init_41 : decode cX5_init 41 = .ok (.putfield 22, 3) := by decide +kernel
theorem dX5_init_44 : decode cX5_init 44 = .ok (.aload_n 0, 1) := by decide +kernel
theorem dX5_init_45 : decode cX5_init 45 = .ok (.iconst 2, 1) := by decide +kernel
theorem dX5_init_46 : decode cX5_init 46 = .ok (.newarray .boolean, 2) := by decide +kernel
theorem dX5_init_48 : decode cX5_init 48 = .ok (.putfield 26, 3) := by decide +kernel
theorem dX5_init_51 : decode cX5_init 51 = .ok (.aload_n 0, 1) := by decide +kernel
theorem dX5_init_52 : decode cX5_init 52 = .ok (.bipush 40, 2) := by decide +kernel
theorem dX5_init_54 : decode cX5_init 54 = .ok (.newarray .int, 2) := by decide +kernel
theorem dX5_init_56 : decode cX5_init 56 = .ok (.putfield 30, 3) := by decide +kernel
theorem dX5_init_59 : decode cX5_init 59 = .ok (.aload_n 0, 1) := by decide +kernel
theorem dX5_init_60 : decode cX5_init 60 = .ok (.bipush 8, 2) := by decide +kernel
theorem dX5_init_62 : decode cX5_init 62 = .ok (.newarray .int, 2) := by decide +kernel
theorem dX5_init_64 : decode cX5_init 64 = .ok (.putfield 33, 3) := by decide +kernel
theorem dX5_init_67 : decode cX5_init 67 = .ok (.aload_n 0, 1) := by decide +kernel
theorem dX5_init_68 : decode cX5_init 68 = .ok (.getfield 7, 3) := by decide +kernel
theorem dX5_init_71 : decode cX5_init 71 = .ok (.iconst 2, 1) := by decide +kernel
theorem dX5_init_72 : decode cX5_init 72 = .ok (.bipush 20, 2) := by decide +kernel
theorem dX5_init_74 : decode cX5_init 74 = .ok (.iastore, 1) := by decide +kernel
theorem dX5_init_75 : decode cX5_init 75 = .ok (.aload_n 0, 1) := by decide +kernel
theorem dX5_init_76 : decode cX5_init 76 = .ok (.getfield 7, 3) := by decide +kernel
theorem dX5_init_79 : decode cX5_init 79 = .ok (.iconst 3, 1) := by decide +kernel
theorem dX5_init_80 : decode cX5_init 80 = .ok (.bipush 60, 2) := by decide +kernel
theorem dX5_init_82 : decode cX5_init 82 = .ok (.iastore, 1) := by decide +kernel
theorem dX5_init_83 : decode cX5_init 83 = .ok (.return_, 1) := by decide +kernel
theorem dX5_in_0 : decode cX5_in 0 = .ok (.iload_n 0, 1) := by decide +kernel
theorem dX5_in_1 : decode cX5_in 1 = .ok (.iload_n 1, 1) := by decide +kernel
theorem dX5_in_2 : decode cX5_in 2 = .ok (.if_icmp .lt 12, 3) := by decide +kernel
theorem dX5_in_5 : decode cX5_in 5 = .ok (.iload_n 0, 1) := by decide +kernel
theorem dX5_in_6 : decode cX5_in 6 = .ok (.iload_n 2, 1) := by decide +kernel
theorem dX5_in_7 : decode cX5_in 7 = .ok (.if_icmp .gt 7, 3) := by decide +kernel
theorem dX5_in_10 : decode cX5_in 10 = .ok (.iconst 1, 1) := by decide +kernel
theorem dX5_in_11 : decode cX5_in 11 = .ok (.goto 4, 3) := by decide +kernel
theorem dX5_in_14 : decode cX5_in 14 = .ok (.iconst 0, 1) := by decide +kernel
theorem dX5_in_15 : decode cX5_in 15 = .ok (.ireturn, 1) := by decide +kernel
set_option maxRecDepth 20000 in
theorem ggX5_isFloor_X5_in : GoodIn wsX5_isFloor wsX5_in := goodIn_r _ [5] (by decide +kernel) (by decide +kernel)
set_option maxRecDepth 20000 in
theorem gX5_isFloor_X5_in : GoodIn wsX5_isFloor (va_wsS RX5 36 yX5_in wsX5_in) := goodIn_app (goodIn_of _ (by decide +kernel)) ggX5_isFloor_X5_in
theorem dX5_isFloor_0 : decode cX5_isFloor 0 = .ok (.iload_n 1, 1) := by decide +kernel
theorem dX5_isFloor_1 : decode cX5_isFloor 1 = .ok (.iconst 0, 1) := by decide +kernel
theorem dX5_isFloor_2 : decode cX5_isFloor 2 = .ok (.aload_n 0, 1) := by decide +kernel
theorem dX5_isFloor_3 : decode cX5_isFloor 3 = .ok (.getfield 7, 3) := by decide +kernel
theorem dX5_isFloor_6 : decode cX5_isFloor 6 = .ok (.iconst 1, 1) := by decide +kernel
theorem dX5_isFloor_7 : decode cX5_isFloor 7 = .ok (.iaload, 1) := by decide +kernel
theorem dX5_isFloor_8 : decode cX5_isFloor 8 = .ok (.iconst 1, 1) := by decide +kernel
theorem dX5_isFloor_9 : decode cX5_isFloor 9 = .ok (.isub, 1) := by decide +kernel
theorem dX5_isFloor_10 : decode cX5_isFloor 10 = .ok (.invokestatic 36, 3) := by decide +kernel
theorem dX5_isFloor_13 : decode cX5_isFloor 13 = .ok (.ireturn, 1) := by decide +kernel
theorem dX5_of_0 : decode cX5_of 0 = .ok (.aload_n 0, 1) := by decide +kernel
theorem dX5_of_1 : decode cX5_of 1 = .ok (.getfield 7, 3) := by decide +kernel
theorem dX5_of_4 : decode cX5_of 4 = .ok (.bipush 6, 2) := by decide +kernel
theorem dX5_of_6 : decode cX5_of 6 = .ok (.iconst 4, 1) := by decide +kernel
theorem dX5_of_7 : decode cX5_of 7 = .ok (.iload_n 1, 1) := by decide +kernel
theorem dX5_of_8 : decode cX5_of 8 = .ok (.imul, 1) := by decide +kernel
theorem dX5_of_9 : decode cX5_of 9 = .ok (.iadd, 1) := by decide +kernel
theorem dX5_of_10 : decode cX5_of 10 = .ok (.iload_n 2, 1) := by decide +kernel
theorem dX5_of_11 : decode cX5_of 11 = .ok (.iadd, 1) := by decide +kernel
theorem dX5_of_12 : decode cX5_of 12 = .ok (.iaload, 1) := by decide +kernel
theorem dX5_of_13 : decode cX5_of 13 = .ok (.ireturn, 1) := by decide +kernel
theorem dX5_put_0 : decode cX5_put 0 = .ok (.aload_n 0, 1) := by decide +kernel
theorem dX5_put_1 : decode cX5_put 1 = .ok (.getfield 7, 3) := by decide +kernel
theorem dX5_put_4 : decode cX5_put 4 = .ok (.bipush 6, 2) := by decide +kernel
theorem dX5_put_6 : decode cX5_put 6 = .ok (.iconst 4, 1) := by decide +kernel
theorem dX5_put_7 : decode cX5_put 7 = .ok (.iload_n 1, 1) := by decide +kernel
theorem dX5_put_8 : decode cX5_put 8 = .ok (.imul, 1) := by decide +kernel
theorem dX5_put_9 : decode cX5_put 9 = .ok (.iadd, 1) := by decide +kernel
theorem dX5_put_10 : decode cX5_put 10 = .ok (.iload_n 2, 1) := by decide +kernel
theorem dX5_put_11 : decode cX5_put 11 = .ok (.iadd, 1) := by decide +kernel
theorem dX5_put_12 : decode cX5_put 12 = .ok (.iload_n 3, 1) := by decide +kernel
theorem dX5_put_13 : decode cX5_put 13 = .ok (.iastore, 1) := by decide +kernel
theorem dX5_put_14 : decode cX5_put 14 = .ok (.return_, 1) := by decide +kernel
theorem dX5_notes_0 : decode cX5_notes 0 = .ok (.aload_n 0, 1) := by decide +kernel
theorem dX5_notes_1 : decode cX5_notes 1 = .ok (.getfield 40, 3) := by decide +kernel
theorem dX5_notes_4 : decode cX5_notes 4 = .ok (.bipush 20, 2) := by decide +kernel
theorem dX5_notes_6 : decode cX5_notes 6 = .ok (.if_icmp .ne 43, 3) := by decide +kernel
theorem dX5_notes_9 : decode cX5_notes 9 = .ok (.iconst 0, 1) := by decide +kernel
theorem dX5_notes_10 : decode cX5_notes 10 = .ok (.istore_n 1, 1) := by decide +kernel
theorem dX5_notes_11 : decode cX5_notes 11 = .ok (.iload_n 1, 1) := by decide +kernel
theorem dX5_notes_12 : decode cX5_notes 12 = .ok (.sipush 722, 3) := by decide +kernel
theorem dX5_notes_15 : decode cX5_notes 15 = .ok (.if_icmp .ge 24, 3) := by decide +kernel
theorem dX5_notes_18 : decode cX5_notes 18 = .ok (.aload_n 0, 1) := by decide +kernel
theorem dX5_notes_19 : decode cX5_notes 19 = .ok (.getfield 16, 3) := by decide +kernel
theorem dX5_notes_22 : decode cX5_notes 22 = .ok (.iload_n 1, 1) := by decide +kernel
theorem dX5_notes_23 : decode cX5_notes 23 = .ok (.aload_n 0, 1) := by decide +kernel
theorem dX5_notes_24 : decode cX5_notes 24 = .ok (.getfield 16, 3) := by decide +kernel
theorem dX5_notes_27 : decode cX5_notes 27 = .ok (.iload_n 1, 1) := by decide +kernel
theorem dX5_notes_28 : decode cX5_notes 28 = .ok (.bipush 38, 2) := by decide +kernel
theorem dX5_notes_30 : decode cX5_notes 30 = .ok (.iadd, 1) := by decide +kernel
theorem dX5_notes_31 : decode cX5_notes 31 = .ok (.iaload, 1) := by decide +kernel
theorem dX5_notes_32 : decode cX5_notes 32 = .ok (.iastore, 1) := by decide +kernel
theorem dX5_notes_33 : decode cX5_notes 33 = .ok (.iinc 1 1, 3) := by decide +kernel
theorem dX5_notes_36 : decode cX5_notes 36 = .ok (.goto (-25), 3) := by decide +kernel
theorem dX5_notes_39 : decode cX5_notes 39 = .ok (.aload_n 0, 1) := by decide +kernel
theorem dX5_notes_40 : decode cX5_notes 40 = .ok (.dup, 1) := by decide +kernel
theorem dX5_notes_41 : decode cX5_notes 41 = .ok (.getfield 40, 3) := by decide +kernel
theorem dX5_notes_44 : decode cX5_notes 44 = .ok (.iconst 1, 1) := by decide +kernel
theorem dX5_notes_45 : decode cX5_notes 45 = .ok (.isub, 1) := by decide +kernel
theorem dX5_notes_46 : decode cX5_notes 46 = .ok (.putfield 40, 3) := by decide +kernel
theorem dX5_notes_49 : decode cX5_notes 49 = .ok (.iconst 0, 1) := by decide +kernel
theorem dX5_notes_50 : decode cX5_notes 50 = .ok (.istore_n 1, 1) := by decide +kernel
theorem dX5_notes_51 : decode cX5_notes 51 = .ok (.iload_n 1, 1) := by decide +kernel
theorem dX5_notes_52 : decode cX5_notes 52 = .ok (.bipush 38, 2) := by decide +kernel
theorem dX5_notes_54 : decode cX5_notes 54 = .ok (.if_icmp .ge 29, 3) := by decide +kernel
theorem dX5_notes_57 : decode cX5_notes 57 = .ok (.aload_n 0, 1) := by decide +kernel
theorem dX5_notes_58 : decode cX5_notes 58 = .ok (.getfield 16, 3) := by decide +kernel
theorem dX5_notes_61 : decode cX5_notes 61 = .ok (.bipush 38, 2) := by decide +kernel
theorem dX5_notes_63 : decode cX5_notes 63 = .ok (.aload_n 0, 1) := by decide +kernel
theorem dX5_notes_64 : decode cX5_notes 64 = .ok (.getfield 40, 3) := by decide +kernel
theorem dX5_notes_67 : decode cX5_notes 67 = .ok (.imul, 1) := by decide +kernel
theorem dX5_notes_68 : decode cX5_notes 68 = .ok (.iload_n 1, 1) := by decide +kernel
theorem dX5_notes_69 : decode cX5_notes 69 = .ok (.iadd, 1) := by decide +kernel
theorem dX5_notes_70 : decode cX5_notes 70 = .ok (.aload_n 0, 1) := by decide +kernel
theorem dX5_notes_71 : decode cX5_notes 71 = .ok (.getfield 7, 3) := by decide +kernel
theorem dX5_notes_74 : decode cX5_notes 74 = .ok (.iload_n 1, 1) := by decide +kernel
theorem dX5_notes_75 : decode cX5_notes 75 = .ok (.iaload, 1) := by decide +kernel
theorem dX5_notes_76 : decode cX5_notes 76 = .ok (.iastore, 1) := by decide +kernel
theorem dX5_notes_77 : decode cX5_notes 77 = .ok (.iinc 1 1, 3) := by decide +kernel
theorem dX5_notes_80 : decode cX5_notes 80 = .ok (.goto (-29), 3) := by decide +kernel
theorem dX5_notes_83 : decode cX5_notes 83 = .ok (.aload_n 0, 1) := by decide +kernel
theorem dX5_notes_84 : decode cX5_notes 84 = .ok (.dup, 1) := by decide +kernel
theorem dX5_notes_85 : decode cX5_notes 85 = .ok (.getfield 40, 3) := by decide +kernel
theorem dX5_notes_88 : decode cX5_notes 88 = .ok (.iconst 1, 1) := by decide +kernel
theorem dX5_notes_89 : decode cX5_notes 89 = .ok (.iadd, 1) := by decide +kernel
theorem dX5_notes_90 : decode cX5_notes 90 = .ok (.putfield 40, 3) := by decide +kernel
theorem dX5_notes_93 : decode cX5_notes 93 = .ok (.return_, 1) := by decide +kernel
theorem dX5_lays_0 : decode cX5_lays 0 = .ok (.iconst 0, 1) := by decide +kernel
theorem dX5_lays_1 : decode cX5_lays 1 = .ok (.istore_n 1, 1) := by decide +kernel
theorem dX5_lays_2 : decode cX5_lays 2 = .ok (.iload_n 1, 1) := by decide +kernel
theorem dX5_lays_3 : decode cX5_lays 3 = .ok (.bipush 38, 2) := by decide +kernel
theorem dX5_lays_5 : decode cX5_lays 5 = .ok (.if_icmp .ge 21, 3) := by decide +kernel
theorem dX5_lays_8 : decode cX5_lays 8 = .ok (.aload_n 0, 1) := by decide +kernel
theorem dX5_lays_9 : decode cX5_lays 9 = .ok (.getfield 13, 3) := by decide +kernel
theorem dX5_lays_12 : decode cX5_lays 12 = .ok (.iload_n 1, 1) := by decide +kernel
theorem dX5_lays_13 : decode cX5_lays 13 = .ok (.aload_n 0, 1) := by decide +kernel
theorem dX5_lays_14 : decode cX5_lays 14 = .ok (.getfield 7, 3) := by decide +kernel
theorem dX5_lays_17 : decode cX5_lays 17 = .ok (.iload_n 1, 1) := by decide +kernel
theorem dX5_lays_18 : decode cX5_lays 18 = .ok (.iaload, 1) := by decide +kernel
theorem dX5_lays_19 : decode cX5_lays 19 = .ok (.iastore, 1) := by decide +kernel
theorem dX5_lays_20 : decode cX5_lays 20 = .ok (.iinc 1 1, 3) := by decide +kernel
theorem dX5_lays_23 : decode cX5_lays 23 = .ok (.goto (-21), 3) := by decide +kernel
theorem dX5_lays_26 : decode cX5_lays 26 = .ok (.return_, 1) := by decide +kernel
theorem dX5_takesBack_0 : decode cX5_takesBack 0 = .ok (.iconst 0, 1) := by decide +kernel
theorem dX5_takesBack_1 : decode cX5_takesBack 1 = .ok (.istore_n 1, 1) := by decide +kernel
theorem dX5_takesBack_2 : decode cX5_takesBack 2 = .ok (.iload_n 1, 1) := by decide +kernel
theorem dX5_takesBack_3 : decode cX5_takesBack 3 = .ok (.bipush 38, 2) := by decide +kernel
theorem dX5_takesBack_5 : decode cX5_takesBack 5 = .ok (.if_icmp .ge 21, 3) := by decide +kernel
theorem dX5_takesBack_8 : decode cX5_takesBack 8 = .ok (.aload_n 0, 1) := by decide +kernel
theorem dX5_takesBack_9 : decode cX5_takesBack 9 = .ok (.getfield 7, 3) := by decide +kernel
theorem dX5_takesBack_12 : decode cX5_takesBack 12 = .ok (.iload_n 1, 1) := by decide +kernel
theorem dX5_takesBack_13 : decode cX5_takesBack 13 = .ok (.aload_n 0, 1) := by decide +kernel
theorem dX5_takesBack_14 : decode cX5_takesBack 14 = .ok (.getfield 13, 3) := by decide +kernel
theorem dX5_takesBack_17 : decode cX5_takesBack 17 = .ok (.iload_n 1, 1) := by decide +kernel
theorem dX5_takesBack_18 : decode cX5_takesBack 18 = .ok (.iaload, 1) := by decide +kernel
theorem dX5_takesBack_19 : decode cX5_takesBack 19 = .ok (.iastore, 1) := by decide +kernel
theorem dX5_takesBack_20 : decode cX5_takesBack 20 = .ok (.iinc 1 1, 3) := by decide +kernel
theorem dX5_takesBack_23 : decode cX5_takesBack 23 = .ok (.goto (-21), 3) := by decide +kernel
theorem dX5_takesBack_26 : decode cX5_takesBack 26 = .ok (.return_, 1) := by decide +kernel
set_option maxRecDepth 20000 in
theorem ggX5_age_X5_of : GoodIn wsX5_age wsX5_of := goodIn_r _ [6, 1, 7, 8, 9, 10, 11, 12, 13, 14, 15, 16, 17] (by decide +kernel) (by decide +kernel)
set_option maxRecDepth 20000 in
theorem gX5_age_X5_of : GoodIn wsX5_age (wsV RX5 44 RX5 yX5_of wsX5_of) := goodIn_app (goodIn_of _ (by decide +kernel)) ggX5_age_X5_of
theorem dX5_age_0 : decode cX5_age 0 = .ok (.aload_n 0, 1) := by decide +kernel
theorem dX5_age_1 : decode cX5_age 1 = .ok (.getfield 7, 3) := by decide +kernel
theorem dX5_age_4 : decode cX5_age 4 = .ok (.iconst 0, 1) := by decide +kernel
theorem dX5_age_5 : decode cX5_age 5 = .ok (.iaload, 1) := by decide +kernel
theorem dX5_age_6 : decode cX5_age 6 = .ok (.aload_n 0, 1) := by decide +kernel
theorem dX5_age_7 : decode cX5_age 7 = .ok (.iload_n 1, 1) := by decide +kernel
theorem dX5_age_8 : decode cX5_age 8 = .ok (.iconst 0, 1) := by decide +kernel
theorem dX5_age_9 : decode cX5_age 9 = .ok (.invokevirtual 44, 3) := by decide +kernel
theorem dX5_age_12 : decode cX5_age 12 = .ok (.isub, 1) := by decide +kernel
theorem dX5_age_13 : decode cX5_age 13 = .ok (.ireturn, 1) := by decide +kernel
theorem dX5_hundredthsBy_0 : decode cX5_hundredthsBy 0 = .ok (.iload_n 0, 1) := by decide +kernel
theorem dX5_hundredthsBy_1 : decode cX5_hundredthsBy 1 = .ok (.ifCond .ne 12, 3) := by decide +kernel
theorem dX5_hundredthsBy_4 : decode cX5_hundredthsBy 4 = .ok (.bipush 100, 2) := by decide +kernel
theorem dX5_hundredthsBy_6 : decode cX5_hundredthsBy 6 = .ok (.iload_n 1, 1) := by decide +kernel
theorem dX5_hundredthsBy_7 : decode cX5_hundredthsBy 7 = .ok (.imul, 1) := by decide +kernel
theorem dX5_hundredthsBy_8 : decode cX5_hundredthsBy 8 = .ok (.iload_n 1, 1) := by decide +kernel
theorem dX5_hundredthsBy_9 : decode cX5_hundredthsBy 9 = .ok (.iconst 4, 1) := by decide +kernel
theorem dX5_hundredthsBy_10 : decode cX5_hundredthsBy 10 = .ok (.iadd, 1) := by decide +kernel
theorem dX5_hundredthsBy_11 : decode cX5_hundredthsBy 11 = .ok (.idiv, 1) := by decide +kernel
theorem dX5_hundredthsBy_12 : decode cX5_hundredthsBy 12 = .ok (.ireturn, 1) := by decide +kernel
theorem dX5_hundredthsBy_13 : decode cX5_hundredthsBy 13 = .ok (.iload_n 0, 1) := by decide +kernel
theorem dX5_hundredthsBy_14 : decode cX5_hundredthsBy 14 = .ok (.iconst 1, 1) := by decide +kernel
theorem dX5_hundredthsBy_15 : decode cX5_hundredthsBy 15 = .ok (.if_icmp .ne 19, 3) := by decide +kernel
theorem dX5_hundredthsBy_18 : decode cX5_hundredthsBy 18 = .ok (.iload_n 1, 1) := by decide +kernel
theorem dX5_hundredthsBy_19 : decode cX5_hundredthsBy 19 = .ok (.bipush 10, 2) := by decide +kernel
theorem dX5_hundredthsBy_21 : decode cX5_hundredthsBy 21 = .ok (.if_icmp .le 8, 3) := by decide +kernel
theorem dX5_hundredthsBy_24 : decode cX5_hundredthsBy 24 = .ok (.bipush 100, 2) := by decide +kernel
theorem dX5_hundredthsBy_26 : decode cX5_hundredthsBy 26 = .ok (.goto 7, 3) := by decide +kernel
theorem dX5_hundredthsBy_29 : decode cX5_hundredthsBy 29 = .ok (.bipush 10, 2) := by decide +kernel
theorem dX5_hundredthsBy_31 : decode cX5_hundredthsBy 31 = .ok (.iload_n 1, 1) := by decide +kernel
theorem dX5_hundredthsBy_32 : decode cX5_hundredthsBy 32 = .ok (.imul, 1) := by decide +kernel
theorem dX5_hundredthsBy_33 : decode cX5_hundredthsBy 33 = .ok (.ireturn, 1) := by decide +kernel
theorem dX5_hundredthsBy_34 : decode cX5_hundredthsBy 34 = .ok (.iload_n 1, 1) := by decide +kernel
theorem dX5_hundredthsBy_35 : decode cX5_hundredthsBy 35 = .ok (.ifCond .ne 7, 3) := by decide +kernel
theorem dX5_hundredthsBy_38 : decode cX5_hundredthsBy 38 = .ok (.iconst 0, 1) := by decide +kernel
theorem dX5_hundredthsBy_39 : decode cX5_hundredthsBy 39 = .ok (.goto 5, 3) := by decide +kernel
theorem dX5_hundredthsBy_42 : decode cX5_hundredthsBy 42 = .ok (.bipush 20, 2) := by decide +kernel
theorem dX5_hundredthsBy_44 : decode cX5_hundredthsBy 44 = .ok (.istore_n 2, 1) := by decide +kernel
theorem dX5_hundredthsBy_45 : decode cX5_hundredthsBy 45 = .ok (.iload_n 1, 1) := by decide +kernel
theorem dX5_hundredthsBy_46 : decode cX5_hundredthsBy 46 = .ok (.istore_n 3, 1) := by decide +kernel
theorem dX5_hundredthsBy_47 : decode cX5_hundredthsBy 47 = .ok (.iload_n 3, 1) := by decide +kernel
theorem dX5_hundredthsBy_48 : decode cX5_hundredthsBy 48 = .ok (.iconst 1, 1) := by decide +kernel
theorem dX5_hundredthsBy_49 : decode cX5_hundredthsBy 49 = .ok (.if_icmp .le 13, 3) := by decide +kernel
theorem dX5_hundredthsBy_52 : decode cX5_hundredthsBy 52 = .ok (.iload_n 3, 1) := by decide +kernel
theorem dX5_hundredthsBy_53 : decode cX5_hundredthsBy 53 = .ok (.iconst 2, 1) := by decide +kernel
theorem dX5_hundredthsBy_54 : decode cX5_hundredthsBy 54 = .ok (.idiv, 1) := by decide +kernel
theorem dX5_hundredthsBy_55 : decode cX5_hundredthsBy 55 = .ok (.istore_n 3, 1) := by decide +kernel
theorem dX5_hundredthsBy_56 : decode cX5_hundredthsBy 56 = .ok (.iinc 2 20, 3) := by decide +kernel
theorem dX5_hundredthsBy_59 : decode cX5_hundredthsBy 59 = .ok (.goto (-12), 3) := by decide +kernel
theorem dX5_hundredthsBy_62 : decode cX5_hundredthsBy 62 = .ok (.iload_n 2, 1) := by decide +kernel
theorem dX5_hundredthsBy_63 : decode cX5_hundredthsBy 63 = .ok (.bipush 100, 2) := by decide +kernel
theorem dX5_hundredthsBy_65 : decode cX5_hundredthsBy 65 = .ok (.if_icmp .le 8, 3) := by decide +kernel
theorem dX5_hundredthsBy_68 : decode cX5_hundredthsBy 68 = .ok (.bipush 100, 2) := by decide +kernel
theorem dX5_hundredthsBy_70 : decode cX5_hundredthsBy 70 = .ok (.goto 4, 3) := by decide +kernel
theorem dX5_hundredthsBy_73 : decode cX5_hundredthsBy 73 = .ok (.iload_n 2, 1) := by decide +kernel
theorem dX5_hundredthsBy_74 : decode cX5_hundredthsBy 74 = .ok (.ireturn, 1) := by decide +kernel
set_option maxRecDepth 20000 in
theorem ggX5_strength_X5_age : GoodIn wsX5_strength wsX5_age := goodIn_r _ [6, 1, 7, 8, 9, 5, 10, 14, 15, 16, 17, 18, 19, 20, 21, 22, 23, 24] (by decide +kernel) (by decide +kernel)
set_option maxRecDepth 20000 in
theorem gX5_strength_X5_age : GoodIn wsX5_strength (wsV RX5 48 RX5 yX5_age wsX5_age) := goodIn_app (goodIn_of _ (by decide +kernel)) ggX5_strength_X5_age
set_option maxRecDepth 20000 in
theorem ggX5_strength_X5_of : GoodIn wsX5_strength wsX5_of := goodIn_r _ [10, 1, 14, 15, 16, 17, 18, 19, 20, 21, 22, 23, 24] (by decide +kernel) (by decide +kernel)
set_option maxRecDepth 20000 in
theorem gX5_strength_X5_of : GoodIn wsX5_strength (wsV RX5 44 RX5 yX5_of wsX5_of) := goodIn_app (goodIn_of _ (by decide +kernel)) ggX5_strength_X5_of
set_option maxRecDepth 20000 in
theorem ggX5_strength_X5_hundredthsBy : GoodIn wsX5_strength wsX5_hundredthsBy := goodIn_r _ [13] (by decide +kernel) (by decide +kernel)
set_option maxRecDepth 20000 in
theorem gX5_strength_X5_hundredthsBy : GoodIn wsX5_strength (va_wsS RX5 52 yX5_hundredthsBy wsX5_hundredthsBy) := goodIn_app (goodIn_of _ (by decide +kernel)) ggX5_strength_X5_hundredthsBy
theorem dX5_strength_0 : decode cX5_strength 0 = .ok (.aload_n 0, 1) := by decide +kernel
theorem dX5_strength_1 : decode cX5_strength 1 = .ok (.iload_n 1, 1) := by decide +kernel
theorem dX5_strength_2 : decode cX5_strength 2 = .ok (.invokevirtual 48, 3) := by decide +kernel
theorem dX5_strength_5 : decode cX5_strength 5 = .ok (.bipush 10, 2) := by decide +kernel
theorem dX5_strength_7 : decode cX5_strength 7 = .ok (.aload_n 0, 1) := by decide +kernel
theorem dX5_strength_8 : decode cX5_strength 8 = .ok (.iload_n 1, 1) := by decide +kernel
theorem dX5_strength_9 : decode cX5_strength 9 = .ok (.iconst 1, 1) := by decide +kernel
theorem dX5_strength_10 : decode cX5_strength 10 = .ok (.invokevirtual 44, 3) := by decide +kernel
theorem dX5_strength_13 : decode cX5_strength 13 = .ok (.isub, 1) := by decide +kernel
theorem dX5_strength_14 : decode cX5_strength 14 = .ok (.imul, 1) := by decide +kernel
theorem dX5_strength_15 : decode cX5_strength 15 = .ok (.bipush 10, 2) := by decide +kernel
theorem dX5_strength_17 : decode cX5_strength 17 = .ok (.idiv, 1) := by decide +kernel
theorem dX5_strength_18 : decode cX5_strength 18 = .ok (.istore_n 2, 1) := by decide +kernel
theorem dX5_strength_19 : decode cX5_strength 19 = .ok (.aload_n 0, 1) := by decide +kernel
theorem dX5_strength_20 : decode cX5_strength 20 = .ok (.getfield 7, 3) := by decide +kernel
theorem dX5_strength_23 : decode cX5_strength 23 = .ok (.iconst 3, 1) := by decide +kernel
theorem dX5_strength_24 : decode cX5_strength 24 = .ok (.iaload, 1) := by decide +kernel
theorem dX5_strength_25 : decode cX5_strength 25 = .ok (.aload_n 0, 1) := by decide +kernel
theorem dX5_strength_26 : decode cX5_strength 26 = .ok (.getfield 7, 3) := by decide +kernel
theorem dX5_strength_29 : decode cX5_strength 29 = .ok (.iconst 4, 1) := by decide +kernel
theorem dX5_strength_30 : decode cX5_strength 30 = .ok (.iaload, 1) := by decide +kernel
theorem dX5_strength_31 : decode cX5_strength 31 = .ok (.iload_n 2, 1) := by decide +kernel
theorem dX5_strength_32 : decode cX5_strength 32 = .ok (.invokestatic 52, 3) := by decide +kernel
theorem dX5_strength_35 : decode cX5_strength 35 = .ok (.imul, 1) := by decide +kernel
theorem dX5_strength_36 : decode cX5_strength 36 = .ok (.bipush 100, 2) := by decide +kernel
theorem dX5_strength_38 : decode cX5_strength 38 = .ok (.idiv, 1) := by decide +kernel
theorem dX5_strength_39 : decode cX5_strength 39 = .ok (.ireturn, 1) := by decide +kernel
set_option maxRecDepth 20000 in
theorem ggX5_isPropped_X5_of : GoodIn wsX5_isPropped wsX5_of := goodIn_r _ [5, 6, 7, 8, 9, 10, 11, 12, 13, 14, 15, 16, 17] (by decide +kernel) (by decide +kernel)
set_option maxRecDepth 20000 in
theorem gX5_isPropped_X5_of : GoodIn wsX5_isPropped (wsV RX5 44 RX5 yX5_of wsX5_of) := goodIn_app (goodIn_of _ (by decide +kernel)) ggX5_isPropped_X5_of
theorem dX5_isPropped_0 : decode cX5_isPropped 0 = .ok (.aload_n 0, 1) := by decide +kernel
theorem dX5_isPropped_1 : decode cX5_isPropped 1 = .ok (.iload_n 1, 1) := by decide +kernel
theorem dX5_isPropped_2 : decode cX5_isPropped 2 = .ok (.iconst 3, 1) := by decide +kernel
theorem dX5_isPropped_3 : decode cX5_isPropped 3 = .ok (.invokevirtual 44, 3) := by decide +kernel
theorem dX5_isPropped_6 : decode cX5_isPropped 6 = .ok (.iconst 1, 1) := by decide +kernel
theorem dX5_isPropped_7 : decode cX5_isPropped 7 = .ok (.if_icmp .ne 7, 3) := by decide +kernel
theorem dX5_isPropped_10 : decode cX5_isPropped 10 = .ok (.iconst 1, 1) := by decide +kernel
theorem dX5_isPropped_11 : decode cX5_isPropped 11 = .ok (.goto 4, 3) := by decide +kernel
theorem dX5_isPropped_14 : decode cX5_isPropped 14 = .ok (.iconst 0, 1) := by decide +kernel
theorem dX5_isPropped_15 : decode cX5_isPropped 15 = .ok (.ireturn, 1) := by decide +kernel
set_option maxRecDepth 20000 in
theorem ggX5_lowest_X5_isPropped : GoodIn wsX5_lowest wsX5_isPropped := goodIn_r _ [5, 6, 7, 8, 4, 9, 10, 11, 12, 13, 14, 15, 16, 17, 18, 19, 20, 21] (by decide +kernel) (by decide +kernel)
set_option maxRecDepth 20000 in
theorem gX5_lowest_X5_isPropped : GoodIn wsX5_lowest (wsV RX5 55 RX5 yX5_isPropped wsX5_isPropped) := goodIn_app (goodIn_of _ (by decide +kernel)) ggX5_lowest_X5_isPropped
theorem dX5_lowest_0 : decode cX5_lowest 0 = .ok (.iload_n 1, 1) := by decide +kernel
theorem dX5_lowest_1 : decode cX5_lowest 1 = .ok (.istore_n 2, 1) := by decide +kernel
theorem dX5_lowest_2 : decode cX5_lowest 2 = .ok (.iload_n 2, 1) := by decide +kernel
theorem dX5_lowest_3 : decode cX5_lowest 3 = .ok (.ifCond .le 17, 3) := by decide +kernel
theorem dX5_lowest_6 : decode cX5_lowest 6 = .ok (.aload_n 0, 1) := by decide +kernel
theorem dX5_lowest_7 : decode cX5_lowest 7 = .ok (.iload_n 2, 1) := by decide +kernel
theorem dX5_lowest_8 : decode cX5_lowest 8 = .ok (.invokevirtual 55, 3) := by decide +kernel
theorem dX5_lowest_11 : decode cX5_lowest 11 = .ok (.ifCond .eq 9, 3) := by decide +kernel
theorem dX5_lowest_14 : decode cX5_lowest 14 = .ok (.iinc 2 (-1), 3) := by decide +kernel
theorem dX5_lowest_17 : decode cX5_lowest 17 = .ok (.goto (-15), 3) := by decide +kernel
theorem dX5_lowest_20 : decode cX5_lowest 20 = .ok (.iload_n 2, 1) := by decide +kernel
theorem dX5_lowest_21 : decode cX5_lowest 21 = .ok (.ireturn, 1) := by decide +kernel
set_option maxRecDepth 20000 in
theorem ggX5_highest_X5_isPropped : GoodIn wsX5_highest wsX5_isPropped := goodIn_r _ [6, 7, 8, 9, 5, 10, 1, 11, 12, 13, 14, 15, 16, 17, 18, 19, 20, 21] (by decide +kernel) (by decide +kernel)
set_option maxRecDepth 20000 in
theorem gX5_highest_X5_isPropped : GoodIn wsX5_highest (wsV RX5 55 RX5 yX5_isPropped wsX5_isPropped) := goodIn_app (goodIn_of _ (by decide +kernel)) ggX5_highest_X5_isPropped
theorem dX5_highest_0 : decode cX5_highest 0 = .ok (.iload_n 1, 1) := by decide +kernel
theorem dX5_highest_1 : decode cX5_highest 1 = .ok (.istore_n 2, 1) := by decide +kernel
theorem dX5_highest_2 : decode cX5_highest 2 = .ok (.iload_n 2, 1) := by decide +kernel
theorem dX5_highest_3 : decode cX5_highest 3 = .ok (.iconst 1, 1) := by decide +kernel
theorem dX5_highest_4 : decode cX5_highest 4 = .ok (.iadd, 1) := by decide +kernel
theorem dX5_highest_5 : decode cX5_highest 5 = .ok (.aload_n 0, 1) := by decide +kernel
theorem dX5_highest_6 : decode cX5_highest 6 = .ok (.getfield 7, 3) := by decide +kernel
theorem dX5_highest_9 : decode cX5_highest 9 = .ok (.iconst 1, 1) := by decide +kernel
theorem dX5_highest_10 : decode cX5_highest 10 = .ok (.iaload, 1) := by decide +kernel
theorem dX5_highest_11 : decode cX5_highest 11 = .ok (.if_icmp .ge 19, 3) := by decide +kernel
theorem dX5_highest_14 : decode cX5_highest 14 = .ok (.aload_n 0, 1) := by decide +kernel
theorem dX5_highest_15 : decode cX5_highest 15 = .ok (.iload_n 2, 1) := by decide +kernel
theorem dX5_highest_16 : decode cX5_highest 16 = .ok (.iconst 1, 1) := by decide +kernel
theorem dX5_highest_17 : decode cX5_highest 17 = .ok (.iadd, 1) := by decide +kernel
theorem dX5_highest_18 : decode cX5_highest 18 = .ok (.invokevirtual 55, 3) := by decide +kernel
theorem dX5_highest_21 : decode cX5_highest 21 = .ok (.ifCond .eq 9, 3) := by decide +kernel
theorem dX5_highest_24 : decode cX5_highest 24 = .ok (.iinc 2 1, 3) := by decide +kernel
theorem dX5_highest_27 : decode cX5_highest 27 = .ok (.goto (-25), 3) := by decide +kernel
theorem dX5_highest_30 : decode cX5_highest 30 = .ok (.iload_n 2, 1) := by decide +kernel
theorem dX5_highest_31 : decode cX5_highest 31 = .ok (.ireturn, 1) := by decide +kernel
set_option maxRecDepth 20000 in
theorem ggX5_isGrounded_X5_lowest : GoodIn wsX5_isGrounded wsX5_lowest := goodIn_r _ [5, 6, 7, 8, 4, 9, 10, 11, 12, 13, 14, 15, 16, 17, 18, 19, 20, 21, 22, 23, 24, 25] (by decide +kernel) (by decide +kernel)
set_option maxRecDepth 20000 in
theorem gX5_isGrounded_X5_lowest : GoodIn wsX5_isGrounded (wsV RX5 59 RX5 yX5_lowest wsX5_lowest) := goodIn_app (goodIn_of _ (by decide +kernel)) ggX5_isGrounded_X5_lowest
set_option maxRecDepth 20000 in
theorem ggX5_isGrounded_X5_isPropped : GoodIn wsX5_isGrounded wsX5_isPropped := goodIn_r _ [9, 10, 11, 12, 4, 13, 14, 15, 16, 17, 18, 19, 20, 21, 22, 23, 24, 25] (by decide +kernel) (by decide +kernel)
set_option maxRecDepth 20000 in
theorem gX5_isGrounded_X5_isPropped : GoodIn wsX5_isGrounded (wsV RX5 55 RX5 yX5_isPropped wsX5_isPropped) := goodIn_app (goodIn_of _ (by decide +kernel)) ggX5_isGrounded_X5_isPropped
theorem dX5_isGrounded_0 : decode cX5_isGrounded 0 = .ok (.aload_n 0, 1) := by decide +kernel
theorem dX5_isGrounded_1 : decode cX5_isGrounded 1 = .ok (.iload_n 1, 1) := by decide +kernel
theorem dX5_isGrounded_2 : decode cX5_isGrounded 2 = .ok (.invokevirtual 59, 3) := by decide +kernel
theorem dX5_isGrounded_5 : decode cX5_isGrounded 5 = .ok (.ifCond .ne 15, 3) := by decide +kernel
theorem dX5_isGrounded_8 : decode cX5_isGrounded 8 = .ok (.aload_n 0, 1) := by decide +kernel
theorem dX5_isGrounded_9 : decode cX5_isGrounded 9 = .ok (.iconst 0, 1) := by decide +kernel
theorem dX5_isGrounded_10 : decode cX5_isGrounded 10 = .ok (.invokevirtual 55, 3) := by decide +kernel
theorem dX5_isGrounded_13 : decode cX5_isGrounded 13 = .ok (.ifCond .eq 7, 3) := by decide +kernel
theorem dX5_isGrounded_16 : decode cX5_isGrounded 16 = .ok (.iconst 1, 1) := by decide +kernel
theorem dX5_isGrounded_17 : decode cX5_isGrounded 17 = .ok (.goto 4, 3) := by decide +kernel
theorem dX5_isGrounded_20 : decode cX5_isGrounded 20 = .ok (.iconst 0, 1) := by decide +kernel
theorem dX5_isGrounded_21 : decode cX5_isGrounded 21 = .ok (.ireturn, 1) := by decide +kernel
set_option maxRecDepth 20000 in
theorem ggX5_force_X5_highest : GoodIn wsX5_force wsX5_highest := goodIn_r _ [6, 1, 7, 8, 9, 5, 10, 11, 12, 13, 14, 15, 16, 17, 18, 19, 20, 21, 22, 23, 24, 25] (by decide +kernel) (by decide +kernel)
set_option maxRecDepth 20000 in
theorem gX5_force_X5_highest : GoodIn wsX5_force (wsV RX5 62 RX5 yX5_highest wsX5_highest) := goodIn_app (goodIn_of _ (by decide +kernel)) ggX5_force_X5_highest
set_option maxRecDepth 20000 in
theorem ggX5_force_X5_isPropped : GoodIn wsX5_force wsX5_isPropped := goodIn_r _ [10, 11, 12, 13, 5, 14, 1, 15, 16, 17, 18, 19, 20, 21, 22, 23, 24, 25] (by decide +kernel) (by decide +kernel)
set_option maxRecDepth 20000 in
theorem gX5_force_X5_isPropped : GoodIn wsX5_force (wsV RX5 55 RX5 yX5_isPropped wsX5_isPropped) := goodIn_app (goodIn_of _ (by decide +kernel)) ggX5_force_X5_isPropped
set_option maxRecDepth 20000 in
theorem ggX5_force_X5_of : GoodIn wsX5_force wsX5_of := goodIn_r _ [14, 1, 15, 16, 17, 18, 19, 20, 21, 22, 23, 24, 25] (by decide +kernel) (by decide +kernel)
set_option maxRecDepth 20000 in
theorem gX5_force_X5_of : GoodIn wsX5_force (wsV RX5 44 RX5 yX5_of wsX5_of) := goodIn_app (goodIn_of _ (by decide +kernel)) ggX5_force_X5_of
theorem dX5_force_0 : decode cX5_force 0 = .ok (.iconst 0, 1) := by decide +kernel
theorem dX5_force_1 : decode cX5_force 1 = .ok (.istore_n 2, 1) := by decide +kernel
theorem dX5_force_2 : decode cX5_force 2 = .ok (.iload_n 1, 1) := by decide +kernel
theorem dX5_force_3 : decode cX5_force 3 = .ok (.istore_n 3, 1) := by decide +kernel
theorem dX5_force_4 : decode cX5_force 4 = .ok (.iload_n 3, 1) := by decide +kernel
theorem dX5_force_5 : decode cX5_force 5 = .ok (.aload_n 0, 1) := by decide +kernel
theorem dX5_force_6 : decode cX5_force 6 = .ok (.iload_n 1, 1) := by decide +kernel
theorem dX5_force_7 : decode cX5_force 7 = .ok (.invokevirtual 62, 3) := by decide +kernel
theorem dX5_force_10 : decode cX5_force 10 = .ok (.if_icmp .gt 33, 3) := by decide +kernel
theorem dX5_force_13 : decode cX5_force 13 = .ok (.aload_n 0, 1) := by decide +kernel
theorem dX5_force_14 : decode cX5_force 14 = .ok (.iload_n 1, 1) := by decide +kernel
theorem dX5_force_15 : decode cX5_force 15 = .ok (.invokevirtual 55, 3) := by decide +kernel
theorem dX5_force_18 : decode cX5_force 18 = .ok (.ifCond .eq 25, 3) := by decide +kernel
theorem dX5_force_21 : decode cX5_force 21 = .ok (.iload_n 2, 1) := by decide +kernel
theorem dX5_force_22 : decode cX5_force 22 = .ok (.aload_n 0, 1) := by decide +kernel
theorem dX5_force_23 : decode cX5_force 23 = .ok (.getfield 7, 3) := by decide +kernel
theorem dX5_force_26 : decode cX5_force 26 = .ok (.iconst 2, 1) := by decide +kernel
theorem dX5_force_27 : decode cX5_force 27 = .ok (.iaload, 1) := by decide +kernel
theorem dX5_force_28 : decode cX5_force 28 = .ok (.aload_n 0, 1) := by decide +kernel
theorem dX5_force_29 : decode cX5_force 29 = .ok (.iload_n 3, 1) := by decide +kernel
theorem dX5_force_30 : decode cX5_force 30 = .ok (.iconst 2, 1) := by decide +kernel
theorem dX5_force_31 : decode cX5_force 31 = .ok (.invokevirtual 44, 3) := by decide +kernel
theorem dX5_force_34 : decode cX5_force 34 = .ok (.isub, 1) := by decide +kernel
theorem dX5_force_35 : decode cX5_force 35 = .ok (.iadd, 1) := by decide +kernel
theorem dX5_force_36 : decode cX5_force 36 = .ok (.istore_n 2, 1) := by decide +kernel
theorem dX5_force_37 : decode cX5_force 37 = .ok (.iinc 3 1, 3) := by decide +kernel
theorem dX5_force_40 : decode cX5_force 40 = .ok (.goto (-36), 3) := by decide +kernel
theorem dX5_force_43 : decode cX5_force 43 = .ok (.iload_n 2, 1) := by decide +kernel
theorem dX5_force_44 : decode cX5_force 44 = .ok (.ireturn, 1) := by decide +kernel
set_option maxRecDepth 20000 in
theorem ggX5_shares_X5_isGrounded : GoodIn wsX5_shares wsX5_isGrounded := goodIn_r _ [7, 8, 9, 10, 6, 11, 12, 13, 14, 15, 16, 17, 18, 19, 2, 39, 40, 41, 42, 43, 44, 45, 46, 47, 48, 49] (by decide +kernel) (by decide +kernel)
set_option maxRecDepth 20000 in
theorem gX5_shares_X5_isGrounded : GoodIn wsX5_shares (wsV RX5 65 RX5 yX5_isGrounded wsX5_isGrounded) := goodIn_app (goodIn_of _ (by decide +kernel)) ggX5_shares_X5_isGrounded
set_option maxRecDepth 20000 in
theorem ggX5_shares_X5_lowest : GoodIn wsX5_shares wsX5_lowest := goodIn_r _ [11, 12, 13, 14, 6, 15, 16, 17, 18, 19, 2, 39, 40, 41, 42, 43, 44, 45, 46, 47, 48, 49] (by decide +kernel) (by decide +kernel)
set_option maxRecDepth 20000 in
theorem gX5_shares_X5_lowest : GoodIn wsX5_shares (wsV RX5 59 RX5 yX5_lowest wsX5_lowest) := goodIn_app (goodIn_of _ (by decide +kernel)) ggX5_shares_X5_lowest
set_option maxRecDepth 20000 in
theorem ggX5_shares_X5_highest : GoodIn wsX5_shares wsX5_highest := goodIn_r _ [23, 2, 12, 13, 14, 6, 15, 16, 17, 18, 19, 39, 40, 41, 42, 43, 44, 45, 46, 47, 48, 49] (by decide +kernel) (by decide +kernel)
set_option maxRecDepth 20000 in
theorem gX5_shares_X5_highest : GoodIn wsX5_shares (wsV RX5 62 RX5 yX5_highest wsX5_highest) := goodIn_app (goodIn_of _ (by decide +kernel)) ggX5_shares_X5_highest
set_option maxRecDepth 20000 in
theorem ggX5_shares_X5_age : GoodIn wsX5_shares wsX5_age := goodIn_r _ [27, 2, 16, 17, 18, 6, 19, 39, 40, 41, 42, 43, 44, 45, 46, 47, 48, 49] (by decide +kernel) (by decide +kernel)
set_option maxRecDepth 20000 in
theorem gX5_shares_X5_age : GoodIn wsX5_shares (wsV RX5 48 RX5 yX5_age wsX5_age) := goodIn_app (goodIn_of _ (by decide +kernel)) ggX5_shares_X5_age
set_option maxRecDepth 20000 in
theorem ggX5_shares_X5_strength : GoodIn wsX5_shares wsX5_strength := goodIn_r _ [31, 2, 24, 25, 26, 6, 27, 16, 17, 18, 19, 32, 33, 34, 39, 40, 41, 42, 43, 44, 45, 46, 47, 48, 49] (by decide +kernel) (by decide +kernel)
set_option maxRecDepth 20000 in
theorem gX5_shares_X5_strength : GoodIn wsX5_shares (wsV RX5 68 RX5 yX5_strength wsX5_strength) := goodIn_app (goodIn_of _ (by decide +kernel)) ggX5_shares_X5_strength
set_option maxRecDepth 20000 in
theorem ggX5_shares_X5_of : GoodIn wsX5_shares wsX5_of := goodIn_r _ [19, 2, 39, 40, 41, 42, 43, 44, 45, 46, 47, 48, 49] (by decide +kernel) (by decide +kernel)
set_option maxRecDepth 20000 in
theorem gX5_shares_X5_of : GoodIn wsX5_shares (wsV RX5 44 RX5 yX5_of wsX5_of) := goodIn_app (goodIn_of _ (by decide +kernel)) ggX5_shares_X5_of
set_option maxRecDepth 20000 in
theorem ggX5_shares_X5_put : GoodIn wsX5_shares wsX5_put := goodIn_r _ [38, 2, 39, 40, 41, 42, 43, 44, 45, 46, 47, 48, 49] (by decide +kernel) (by decide +kernel)
set_option maxRecDepth 20000 in
theorem gX5_shares_X5_put : GoodIn wsX5_shares (wsV RX5 71 RX5 yX5_put wsX5_put) := goodIn_app (goodIn_of _ (by decide +kernel)) ggX5_shares_X5_put
theorem dX5_shares_0 : decode cX5_shares 0 = .ok (.aload_n 0, 1) := by decide +kernel
theorem dX5_shares_1 : decode cX5_shares 1 = .ok (.iload_n 1, 1) := by decide +kernel
theorem dX5_shares_2 : decode cX5_shares 2 = .ok (.invokevirtual 65, 3) := by decide +kernel
theorem dX5_shares_5 : decode cX5_shares 5 = .ok (.ifCond .eq 4, 3) := by decide +kernel
theorem dX5_shares_8 : decode cX5_shares 8 = .ok (.return_, 1) := by decide +kernel
theorem dX5_shares_9 : decode cX5_shares 9 = .ok (.aload_n 0, 1) := by decide +kernel
theorem dX5_shares_10 : decode cX5_shares 10 = .ok (.iload_n 1, 1) := by decide +kernel
theorem dX5_shares_11 : decode cX5_shares 11 = .ok (.invokevirtual 59, 3) := by decide +kernel
theorem dX5_shares_14 : decode cX5_shares 14 = .ok (.istore_n 3, 1) := by decide +kernel
theorem dX5_shares_15 : decode cX5_shares 15 = .ok (.aload_n 0, 1) := by decide +kernel
theorem dX5_shares_16 : decode cX5_shares 16 = .ok (.iload_n 1, 1) := by decide +kernel
theorem dX5_shares_17 : decode cX5_shares 17 = .ok (.invokevirtual 62, 3) := by decide +kernel
theorem dX5_shares_20 : decode cX5_shares 20 = .ok (.istore 4, 2) := by decide +kernel
theorem dX5_shares_22 : decode cX5_shares 22 = .ok (.iconst 0, 1) := by decide +kernel
theorem dX5_shares_23 : decode cX5_shares 23 = .ok (.istore 5, 2) := by decide +kernel
theorem dX5_shares_25 : decode cX5_shares 25 = .ok (.iload_n 3, 1) := by decide +kernel
theorem dX5_shares_26 : decode cX5_shares 26 = .ok (.istore 6, 2) := by decide +kernel
theorem dX5_shares_28 : decode cX5_shares 28 = .ok (.iload 6, 2) := by decide +kernel
theorem dX5_shares_30 : decode cX5_shares 30 = .ok (.iload 4, 2) := by decide +kernel
theorem dX5_shares_32 : decode cX5_shares 32 = .ok (.if_icmp .gt 79, 3) := by decide +kernel
theorem dX5_shares_35 : decode cX5_shares 35 = .ok (.aload_n 0, 1) := by decide +kernel
theorem dX5_shares_36 : decode cX5_shares 36 = .ok (.getfield 33, 3) := by decide +kernel
theorem dX5_shares_39 : decode cX5_shares 39 = .ok (.iload 6, 2) := by decide +kernel
theorem dX5_shares_41 : decode cX5_shares 41 = .ok (.aload_n 0, 1) := by decide +kernel
theorem dX5_shares_42 : decode cX5_shares 42 = .ok (.getfield 7, 3) := by decide +kernel
theorem dX5_shares_45 : decode cX5_shares 45 = .ok (.iconst 5, 1) := by decide +kernel
theorem dX5_shares_46 : decode cX5_shares 46 = .ok (.iaload, 1) := by decide +kernel
theorem dX5_shares_47 : decode cX5_shares 47 = .ok (.ifCond .ne 20, 3) := by decide +kernel
theorem dX5_shares_50 : decode cX5_shares 50 = .ok (.aload_n 0, 1) := by decide +kernel
theorem dX5_shares_51 : decode cX5_shares 51 = .ok (.iload 6, 2) := by decide +kernel
theorem dX5_shares_53 : decode cX5_shares 53 = .ok (.invokevirtual 48, 3) := by decide +kernel
theorem dX5_shares_56 : decode cX5_shares 56 = .ok (.ifCond .le 7, 3) := by decide +kernel
theorem dX5_shares_59 : decode cX5_shares 59 = .ok (.iconst 1, 1) := by decide +kernel
theorem dX5_shares_60 : decode cX5_shares 60 = .ok (.goto 32, 3) := by decide +kernel
theorem dX5_shares_63 : decode cX5_shares 63 = .ok (.iconst 0, 1) := by decide +kernel
theorem dX5_shares_64 : decode cX5_shares 64 = .ok (.goto 28, 3) := by decide +kernel
theorem dX5_shares_67 : decode cX5_shares 67 = .ok (.aload_n 0, 1) := by decide +kernel
theorem dX5_shares_68 : decode cX5_shares 68 = .ok (.getfield 7, 3) := by decide +kernel
theorem dX5_shares_71 : decode cX5_shares 71 = .ok (.iconst 5, 1) := by decide +kernel
theorem dX5_shares_72 : decode cX5_shares 72 = .ok (.iaload, 1) := by decide +kernel
theorem dX5_shares_73 : decode cX5_shares 73 = .ok (.iconst 1, 1) := by decide +kernel
theorem dX5_shares_74 : decode cX5_shares 74 = .ok (.if_icmp .ne 12, 3) := by decide +kernel
theorem dX5_shares_77 : decode cX5_shares 77 = .ok (.aload_n 0, 1) := by decide +kernel
theorem dX5_shares_78 : decode cX5_shares 78 = .ok (.iload 6, 2) := by decide +kernel
theorem dX5_shares_80 : decode cX5_shares 80 = .ok (.invokevirtual 68, 3) := by decide +kernel
theorem dX5_shares_83 : decode cX5_shares 83 = .ok (.goto 9, 3) := by decide +kernel
theorem dX5_shares_86 : decode cX5_shares 86 = .ok (.aload_n 0, 1) := by decide +kernel
theorem dX5_shares_87 : decode cX5_shares 87 = .ok (.iload 6, 2) := by decide +kernel
theorem dX5_shares_89 : decode cX5_shares 89 = .ok (.invokevirtual 48, 3) := by decide +kernel
theorem dX5_shares_92 : decode cX5_shares 92 = .ok (.iastore, 1) := by decide +kernel
theorem dX5_shares_93 : decode cX5_shares 93 = .ok (.iload 5, 2) := by decide +kernel
theorem dX5_shares_95 : decode cX5_shares 95 = .ok (.aload_n 0, 1) := by decide +kernel
theorem dX5_shares_96 : decode cX5_shares 96 = .ok (.getfield 33, 3) := by decide +kernel
theorem dX5_shares_99 : decode cX5_shares 99 = .ok (.iload 6, 2) := by decide +kernel
theorem dX5_shares_101 : decode cX5_shares 101 = .ok (.iaload, 1) := by decide +kernel
theorem dX5_shares_102 : decode cX5_shares 102 = .ok (.iadd, 1) := by decide +kernel
theorem dX5_shares_103 : decode cX5_shares 103 = .ok (.istore 5, 2) := by decide +kernel
theorem dX5_shares_105 : decode cX5_shares 105 = .ok (.iinc 6 1, 3) := by decide +kernel
theorem dX5_shares_108 : decode cX5_shares 108 = .ok (.goto (-80), 3) := by decide +kernel
theorem dX5_shares_111 : decode cX5_shares 111 = .ok (.iload_n 3, 1) := by decide +kernel
theorem dX5_shares_112 : decode cX5_shares 112 = .ok (.istore 6, 2) := by decide +kernel
theorem dX5_shares_114 : decode cX5_shares 114 = .ok (.iload 6, 2) := by decide +kernel
theorem dX5_shares_116 : decode cX5_shares 116 = .ok (.iload 4, 2) := by decide +kernel
theorem dX5_shares_118 : decode cX5_shares 118 = .ok (.if_icmp .gt 22, 3) := by decide +kernel
theorem dX5_shares_121 : decode cX5_shares 121 = .ok (.iload 5, 2) := by decide +kernel
theorem dX5_shares_123 : decode cX5_shares 123 = .ok (.ifCond .ne 17, 3) := by decide +kernel
theorem dX5_shares_126 : decode cX5_shares 126 = .ok (.aload_n 0, 1) := by decide +kernel
theorem dX5_shares_127 : decode cX5_shares 127 = .ok (.getfield 33, 3) := by decide +kernel
theorem dX5_shares_130 : decode cX5_shares 130 = .ok (.iload 6, 2) := by decide +kernel
theorem dX5_shares_132 : decode cX5_shares 132 = .ok (.iconst 1, 1) := by decide +kernel
theorem dX5_shares_133 : decode cX5_shares 133 = .ok (.iastore, 1) := by decide +kernel
theorem dX5_shares_134 : decode cX5_shares 134 = .ok (.iinc 6 1, 3) := by decide +kernel
theorem dX5_shares_137 : decode cX5_shares 137 = .ok (.goto (-23), 3) := by decide +kernel
theorem dX5_shares_140 : decode cX5_shares 140 = .ok (.iload 5, 2) := by decide +kernel
theorem dX5_shares_142 : decode cX5_shares 142 = .ok (.ifCond .ne 12, 3) := by decide +kernel
theorem dX5_shares_145 : decode cX5_shares 145 = .ok (.iload 4, 2) := by decide +kernel
theorem dX5_shares_147 : decode cX5_shares 147 = .ok (.iload_n 3, 1) := by decide +kernel
theorem dX5_shares_148 : decode cX5_shares 148 = .ok (.isub, 1) := by decide +kernel
theorem dX5_shares_149 : decode cX5_shares 149 = .ok (.iconst 1, 1) := by decide +kernel
theorem dX5_shares_150 : decode cX5_shares 150 = .ok (.iadd, 1) := by decide +kernel
theorem dX5_shares_151 : decode cX5_shares 151 = .ok (.goto 5, 3) := by decide +kernel
theorem dX5_shares_154 : decode cX5_shares 154 = .ok (.iload 5, 2) := by decide +kernel
theorem dX5_shares_156 : decode cX5_shares 156 = .ok (.istore 5, 2) := by decide +kernel
theorem dX5_shares_158 : decode cX5_shares 158 = .ok (.iload_n 2, 1) := by decide +kernel
theorem dX5_shares_159 : decode cX5_shares 159 = .ok (.istore 6, 2) := by decide +kernel
theorem dX5_shares_161 : decode cX5_shares 161 = .ok (.iload_n 3, 1) := by decide +kernel
theorem dX5_shares_162 : decode cX5_shares 162 = .ok (.istore 7, 2) := by decide +kernel
theorem dX5_shares_164 : decode cX5_shares 164 = .ok (.iload 7, 2) := by decide +kernel
theorem dX5_shares_166 : decode cX5_shares 166 = .ok (.iload 4, 2) := by decide +kernel
theorem dX5_shares_168 : decode cX5_shares 168 = .ok (.if_icmp .gt 51, 3) := by decide +kernel
theorem dX5_shares_171 : decode cX5_shares 171 = .ok (.iload_n 2, 1) := by decide +kernel
theorem dX5_shares_172 : decode cX5_shares 172 = .ok (.i2l, 1) := by decide +kernel
theorem dX5_shares_173 : decode cX5_shares 173 = .ok (.aload_n 0, 1) := by decide +kernel
theorem dX5_shares_174 : decode cX5_shares 174 = .ok (.getfield 33, 3) := by decide +kernel
theorem dX5_shares_177 : decode cX5_shares 177 = .ok (.iload 7, 2) := by decide +kernel
theorem dX5_shares_179 : decode cX5_shares 179 = .ok (.iaload, 1) := by decide +kernel
theorem dX5_shares_180 : decode cX5_shares 180 = .ok (.i2l, 1) := by decide +kernel
theorem dX5_shares_181 : decode cX5_shares 181 = .ok (.lmul, 1) := by decide +kernel
theorem dX5_shares_182 : decode cX5_shares 182 = .ok (.iload 5, 2) := by decide +kernel
theorem dX5_shares_184 : decode cX5_shares 184 = .ok (.i2l, 1) := by decide +kernel
theorem dX5_shares_185 : decode cX5_shares 185 = .ok (.ldiv, 1) := by decide +kernel
theorem dX5_shares_186 : decode cX5_shares 186 = .ok (.l2i, 1) := by decide +kernel
theorem dX5_shares_187 : decode cX5_shares 187 = .ok (.istore 8, 2) := by decide +kernel
theorem dX5_shares_189 : decode cX5_shares 189 = .ok (.aload_n 0, 1) := by decide +kernel
theorem dX5_shares_190 : decode cX5_shares 190 = .ok (.iload 7, 2) := by decide +kernel
theorem dX5_shares_192 : decode cX5_shares 192 = .ok (.iconst 2, 1) := by decide +kernel
theorem dX5_shares_193 : decode cX5_shares 193 = .ok (.aload_n 0, 1) := by decide +kernel
theorem dX5_shares_194 : decode cX5_shares 194 = .ok (.iload 7, 2) := by decide +kernel
theorem dX5_shares_196 : decode cX5_shares 196 = .ok (.iconst 2, 1) := by decide +kernel
theorem dX5_shares_197 : decode cX5_shares 197 = .ok (.invokevirtual 44, 3) := by decide +kernel
theorem dX5_shares_200 : decode cX5_shares 200 = .ok (.iload 8, 2) := by decide +kernel
theorem dX5_shares_202 : decode cX5_shares 202 = .ok (.iadd, 1) := by decide +kernel
theorem dX5_shares_203 : decode cX5_shares 203 = .ok (.invokevirtual 71, 3) := by decide +kernel
theorem dX5_shares_206 : decode cX5_shares 206 = .ok (.iload 6, 2) := by decide +kernel
theorem dX5_shares_208 : decode cX5_shares 208 = .ok (.iload 8, 2) := by decide +kernel
theorem dX5_shares_210 : decode cX5_shares 210 = .ok (.isub, 1) := by decide +kernel
theorem dX5_shares_211 : decode cX5_shares 211 = .ok (.istore 6, 2) := by decide +kernel
theorem dX5_shares_213 : decode cX5_shares 213 = .ok (.iinc 7 1, 3) := by decide +kernel
theorem dX5_shares_216 : decode cX5_shares 216 = .ok (.goto (-52), 3) := by decide +kernel
theorem dX5_shares_219 : decode cX5_shares 219 = .ok (.iload 6, 2) := by decide +kernel
theorem dX5_shares_221 : decode cX5_shares 221 = .ok (.ifCond .eq 77, 3) := by decide +kernel
theorem dX5_shares_224 : decode cX5_shares 224 = .ok (.iload_n 3, 1) := by decide +kernel
theorem dX5_shares_225 : decode cX5_shares 225 = .ok (.istore 7, 2) := by decide +kernel
theorem dX5_shares_227 : decode cX5_shares 227 = .ok (.iload 7, 2) := by decide +kernel
theorem dX5_shares_229 : decode cX5_shares 229 = .ok (.iload 4, 2) := by decide +kernel
theorem dX5_shares_231 : decode cX5_shares 231 = .ok (.if_icmp .gt 64, 3) := by decide +kernel
theorem dX5_shares_234 : decode cX5_shares 234 = .ok (.iload 6, 2) := by decide +kernel
theorem dX5_shares_236 : decode cX5_shares 236 = .ok (.ifCond .eq 59, 3) := by decide +kernel
theorem dX5_shares_239 : decode cX5_shares 239 = .ok (.aload_n 0, 1) := by decide +kernel
theorem dX5_shares_240 : decode cX5_shares 240 = .ok (.getfield 33, 3) := by decide +kernel
theorem dX5_shares_243 : decode cX5_shares 243 = .ok (.iload 7, 2) := by decide +kernel
theorem dX5_shares_245 : decode cX5_shares 245 = .ok (.iaload, 1) := by decide +kernel
theorem dX5_shares_246 : decode cX5_shares 246 = .ok (.ifCond .ne 7, 3) := by decide +kernel
theorem dX5_shares_249 : decode cX5_shares 249 = .ok (.iconst 0, 1) := by decide +kernel
theorem dX5_shares_250 : decode cX5_shares 250 = .ok (.goto 13, 3) := by decide +kernel
theorem dX5_shares_253 : decode cX5_shares 253 = .ok (.iload 6, 2) := by decide +kernel
theorem dX5_shares_255 : decode cX5_shares 255 = .ok (.ifCond .le 7, 3) := by decide +kernel
theorem dX5_shares_258 : decode cX5_shares 258 = .ok (.iconst 1, 1) := by decide +kernel
theorem dX5_shares_259 : decode cX5_shares 259 = .ok (.goto 4, 3) := by decide +kernel
theorem dX5_shares_262 : decode cX5_shares 262 = .ok (.iconst (-1), 1) := by decide +kernel
theorem dX5_shares_263 : decode cX5_shares 263 = .ok (.istore 8, 2) := by decide +kernel
theorem dX5_shares_265 : decode cX5_shares 265 = .ok (.aload_n 0, 1) := by decide +kernel
theorem dX5_shares_266 : decode cX5_shares 266 = .ok (.iload 7, 2) := by decide +kernel
theorem dX5_shares_268 : decode cX5_shares 268 = .ok (.iconst 2, 1) := by decide +kernel
theorem dX5_shares_269 : decode cX5_shares 269 = .ok (.aload_n 0, 1) := by decide +kernel
theorem dX5_shares_270 : decode cX5_shares 270 = .ok (.iload 7, 2) := by decide +kernel
theorem dX5_shares_272 : decode cX5_shares 272 = .ok (.iconst 2, 1) := by decide +kernel
theorem dX5_shares_273 : decode cX5_shares 273 = .ok (.invokevirtual 44, 3) := by decide +kernel
theorem dX5_shares_276 : decode cX5_shares 276 = .ok (.iload 8, 2) := by decide +kernel
theorem dX5_shares_278 : decode cX5_shares 278 = .ok (.iadd, 1) := by decide +kernel
theorem dX5_shares_279 : decode cX5_shares 279 = .ok (.invokevirtual 71, 3) := by decide +kernel
theorem dX5_shares_282 : decode cX5_shares 282 = .ok (.iload 6, 2) := by decide +kernel
theorem dX5_shares_284 : decode cX5_shares 284 = .ok (.iload 8, 2) := by decide +kernel
theorem dX5_shares_286 : decode cX5_shares 286 = .ok (.isub, 1) := by decide +kernel
theorem dX5_shares_287 : decode cX5_shares 287 = .ok (.istore 6, 2) := by decide +kernel
theorem dX5_shares_289 : decode cX5_shares 289 = .ok (.iinc 7 1, 3) := by decide +kernel
theorem dX5_shares_292 : decode cX5_shares 292 = .ok (.goto (-65), 3) := by decide +kernel
theorem dX5_shares_295 : decode cX5_shares 295 = .ok (.goto (-76), 3) := by decide +kernel
theorem dX5_shares_298 : decode cX5_shares 298 = .ok (.return_, 1) := by decide +kernel
set_option maxRecDepth 20000 in
theorem ggX5_weak_X5_of : GoodIn wsX5_weak wsX5_of := goodIn_r _ [6, 1, 18, 19, 20, 21, 22, 23, 24, 25, 26, 27, 28] (by decide +kernel) (by decide +kernel)
set_option maxRecDepth 20000 in
theorem gX5_weak_X5_of : GoodIn wsX5_weak (wsV RX5 44 RX5 yX5_of wsX5_of) := goodIn_app (goodIn_of _ (by decide +kernel)) ggX5_weak_X5_of
set_option maxRecDepth 20000 in
theorem ggX5_weak_X5_strength : GoodIn wsX5_weak wsX5_strength := goodIn_r _ [10, 1, 11, 12, 13, 5, 14, 2, 3, 4, 6, 15, 16, 17, 18, 19, 20, 21, 22, 23, 24, 25, 26, 27, 28] (by decide +kernel) (by decide +kernel)
set_option maxRecDepth 20000 in
theorem gX5_weak_X5_strength : GoodIn wsX5_weak (wsV RX5 68 RX5 yX5_strength wsX5_strength) := goodIn_app (goodIn_of _ (by decide +kernel)) ggX5_weak_X5_strength
theorem dX5_weak_0 : decode cX5_weak 0 = .ok (.iconst 0, 1) := by decide +kernel
theorem dX5_weak_1 : decode cX5_weak 1 = .ok (.istore_n 1, 1) := by decide +kernel
theorem dX5_weak_2 : decode cX5_weak 2 = .ok (.iconst 0, 1) := by decide +kernel
theorem dX5_weak_3 : decode cX5_weak 3 = .ok (.istore_n 2, 1) := by decide +kernel
theorem dX5_weak_4 : decode cX5_weak 4 = .ok (.iload_n 2, 1) := by decide +kernel
theorem dX5_weak_5 : decode cX5_weak 5 = .ok (.aload_n 0, 1) := by decide +kernel
theorem dX5_weak_6 : decode cX5_weak 6 = .ok (.getfield 7, 3) := by decide +kernel
theorem dX5_weak_9 : decode cX5_weak 9 = .ok (.iconst 1, 1) := by decide +kernel
theorem dX5_weak_10 : decode cX5_weak 10 = .ok (.iaload, 1) := by decide +kernel
theorem dX5_weak_11 : decode cX5_weak 11 = .ok (.if_icmp .ge 33, 3) := by decide +kernel
theorem dX5_weak_14 : decode cX5_weak 14 = .ok (.iload_n 1, 1) := by decide +kernel
theorem dX5_weak_15 : decode cX5_weak 15 = .ok (.aload_n 0, 1) := by decide +kernel
theorem dX5_weak_16 : decode cX5_weak 16 = .ok (.iload_n 2, 1) := by decide +kernel
theorem dX5_weak_17 : decode cX5_weak 17 = .ok (.iconst 2, 1) := by decide +kernel
theorem dX5_weak_18 : decode cX5_weak 18 = .ok (.invokevirtual 44, 3) := by decide +kernel
theorem dX5_weak_21 : decode cX5_weak 21 = .ok (.aload_n 0, 1) := by decide +kernel
theorem dX5_weak_22 : decode cX5_weak 22 = .ok (.iload_n 2, 1) := by decide +kernel
theorem dX5_weak_23 : decode cX5_weak 23 = .ok (.invokevirtual 68, 3) := by decide +kernel
theorem dX5_weak_26 : decode cX5_weak 26 = .ok (.if_icmp .le 9, 3) := by decide +kernel
theorem dX5_weak_29 : decode cX5_weak 29 = .ok (.iconst 1, 1) := by decide +kernel
theorem dX5_weak_30 : decode cX5_weak 30 = .ok (.iload_n 2, 1) := by decide +kernel
theorem dX5_weak_31 : decode cX5_weak 31 = .ok (.ishl, 1) := by decide +kernel
theorem dX5_weak_32 : decode cX5_weak 32 = .ok (.goto 4, 3) := by decide +kernel
theorem dX5_weak_35 : decode cX5_weak 35 = .ok (.iconst 0, 1) := by decide +kernel
theorem dX5_weak_36 : decode cX5_weak 36 = .ok (.ior, 1) := by decide +kernel
theorem dX5_weak_37 : decode cX5_weak 37 = .ok (.istore_n 1, 1) := by decide +kernel
theorem dX5_weak_38 : decode cX5_weak 38 = .ok (.iinc 2 1, 3) := by decide +kernel
theorem dX5_weak_41 : decode cX5_weak 41 = .ok (.goto (-37), 3) := by decide +kernel
theorem dX5_weak_44 : decode cX5_weak 44 = .ok (.iload_n 1, 1) := by decide +kernel
theorem dX5_weak_45 : decode cX5_weak 45 = .ok (.ireturn, 1) := by decide +kernel
set_option maxRecDepth 20000 in
theorem ggX5_pours_X5_put : GoodIn wsX5_pours wsX5_put := goodIn_r _ [6, 1, 43, 44, 45, 46, 47, 48, 49, 50, 51, 52, 53] (by decide +kernel) (by decide +kernel)
set_option maxRecDepth 20000 in
theorem gX5_pours_X5_put : GoodIn wsX5_pours (wsV RX5 71 RX5 yX5_put wsX5_put) := goodIn_app (goodIn_of _ (by decide +kernel)) ggX5_pours_X5_put
set_option maxRecDepth 20000 in
theorem ggX5_pours_X5_shares : GoodIn wsX5_pours wsX5_shares := goodIn_r _ [10, 11, 1, 12, 13, 14, 5, 15, 16, 17, 18, 19, 20, 21, 22, 23, 24, 25, 26, 27, 28, 29, 30, 31, 32, 33, 34, 35, 36, 37, 38, 39, 40, 41, 42, 2, 3, 4, 6, 43, 44, 45, 46, 47, 48, 49, 50, 51, 52, 53] (by decide +kernel) (by decide +kernel)
set_option maxRecDepth 20000 in
theorem gX5_pours_X5_shares : GoodIn wsX5_pours (wsV RX5 75 RX5 yX5_shares wsX5_shares) := goodIn_app (goodIn_of _ (by decide +kernel)) ggX5_pours_X5_shares
theorem dX5_pours_0 : decode cX5_pours 0 = .ok (.aload_n 0, 1) := by decide +kernel
theorem dX5_pours_1 : decode cX5_pours 1 = .ok (.getfield 7, 3) := by decide +kernel
theorem dX5_pours_4 : decode cX5_pours 4 = .ok (.iconst 1, 1) := by decide +kernel
theorem dX5_pours_5 : decode cX5_pours 5 = .ok (.iaload, 1) := by decide +kernel
theorem dX5_pours_6 : decode cX5_pours 6 = .ok (.istore_n 1, 1) := by decide +kernel
theorem dX5_pours_7 : decode cX5_pours 7 = .ok (.aload_n 0, 1) := by decide +kernel
theorem dX5_pours_8 : decode cX5_pours 8 = .ok (.iload_n 1, 1) := by decide +kernel
theorem dX5_pours_9 : decode cX5_pours 9 = .ok (.iconst 0, 1) := by decide +kernel
theorem dX5_pours_10 : decode cX5_pours 10 = .ok (.aload_n 0, 1) := by decide +kernel
theorem dX5_pours_11 : decode cX5_pours 11 = .ok (.getfield 7, 3) := by decide +kernel
theorem dX5_pours_14 : decode cX5_pours 14 = .ok (.iconst 0, 1) := by decide +kernel
theorem dX5_pours_15 : decode cX5_pours 15 = .ok (.iaload, 1) := by decide +kernel
theorem dX5_pours_16 : decode cX5_pours 16 = .ok (.invokevirtual 71, 3) := by decide +kernel
theorem dX5_pours_19 : decode cX5_pours 19 = .ok (.aload_n 0, 1) := by decide +kernel
theorem dX5_pours_20 : decode cX5_pours 20 = .ok (.iload_n 1, 1) := by decide +kernel
theorem dX5_pours_21 : decode cX5_pours 21 = .ok (.iconst 1, 1) := by decide +kernel
theorem dX5_pours_22 : decode cX5_pours 22 = .ok (.iconst 0, 1) := by decide +kernel
theorem dX5_pours_23 : decode cX5_pours 23 = .ok (.invokevirtual 71, 3) := by decide +kernel
theorem dX5_pours_26 : decode cX5_pours 26 = .ok (.aload_n 0, 1) := by decide +kernel
theorem dX5_pours_27 : decode cX5_pours 27 = .ok (.iload_n 1, 1) := by decide +kernel
theorem dX5_pours_28 : decode cX5_pours 28 = .ok (.iconst 2, 1) := by decide +kernel
theorem dX5_pours_29 : decode cX5_pours 29 = .ok (.iconst 0, 1) := by decide +kernel
theorem dX5_pours_30 : decode cX5_pours 30 = .ok (.invokevirtual 71, 3) := by decide +kernel
theorem dX5_pours_33 : decode cX5_pours 33 = .ok (.aload_n 0, 1) := by decide +kernel
theorem dX5_pours_34 : decode cX5_pours 34 = .ok (.iload_n 1, 1) := by decide +kernel
theorem dX5_pours_35 : decode cX5_pours 35 = .ok (.iconst 3, 1) := by decide +kernel
theorem dX5_pours_36 : decode cX5_pours 36 = .ok (.iconst 1, 1) := by decide +kernel
theorem dX5_pours_37 : decode cX5_pours 37 = .ok (.invokevirtual 71, 3) := by decide +kernel
theorem dX5_pours_40 : decode cX5_pours 40 = .ok (.aload_n 0, 1) := by decide +kernel
theorem dX5_pours_41 : decode cX5_pours 41 = .ok (.getfield 7, 3) := by decide +kernel
theorem dX5_pours_44 : decode cX5_pours 44 = .ok (.iconst 1, 1) := by decide +kernel
theorem dX5_pours_45 : decode cX5_pours 45 = .ok (.dup2, 1) := by decide +kernel
theorem dX5_pours_46 : decode cX5_pours 46 = .ok (.iaload, 1) := by decide +kernel
theorem dX5_pours_47 : decode cX5_pours 47 = .ok (.iconst 1, 1) := by decide +kernel
theorem dX5_pours_48 : decode cX5_pours 48 = .ok (.iadd, 1) := by decide +kernel
theorem dX5_pours_49 : decode cX5_pours 49 = .ok (.iastore, 1) := by decide +kernel
theorem dX5_pours_50 : decode cX5_pours 50 = .ok (.aload_n 0, 1) := by decide +kernel
theorem dX5_pours_51 : decode cX5_pours 51 = .ok (.iload_n 1, 1) := by decide +kernel
theorem dX5_pours_52 : decode cX5_pours 52 = .ok (.aload_n 0, 1) := by decide +kernel
theorem dX5_pours_53 : decode cX5_pours 53 = .ok (.getfield 7, 3) := by decide +kernel
theorem dX5_pours_56 : decode cX5_pours 56 = .ok (.iconst 2, 1) := by decide +kernel
theorem dX5_pours_57 : decode cX5_pours 57 = .ok (.iaload, 1) := by decide +kernel
theorem dX5_pours_58 : decode cX5_pours 58 = .ok (.invokevirtual 75, 3) := by decide +kernel
theorem dX5_pours_61 : decode cX5_pours 61 = .ok (.return_, 1) := by decide +kernel
set_option maxRecDepth 20000 in
theorem ggX5_strikes_X5_force : GoodIn wsX5_strikes wsX5_force := goodIn_r _ [5, 6, 7, 8, 9, 4, 10, 11, 12, 13, 14, 15, 16, 17, 18, 47, 48, 49, 50, 51, 52, 53, 54, 55, 56, 57] (by decide +kernel) (by decide +kernel)
set_option maxRecDepth 20000 in
theorem gX5_strikes_X5_force : GoodIn wsX5_strikes (wsV RX5 79 RX5 yX5_force wsX5_force) := goodIn_app (goodIn_of _ (by decide +kernel)) ggX5_strikes_X5_force
set_option maxRecDepth 20000 in
theorem ggX5_strikes_X5_put : GoodIn wsX5_strikes wsX5_put := goodIn_r _ [22, 6, 47, 48, 49, 50, 51, 52, 53, 54, 55, 56, 57] (by decide +kernel) (by decide +kernel)
set_option maxRecDepth 20000 in
theorem gX5_strikes_X5_put : GoodIn wsX5_strikes (wsV RX5 71 RX5 yX5_put wsX5_put) := goodIn_app (goodIn_of _ (by decide +kernel)) ggX5_strikes_X5_put
set_option maxRecDepth 20000 in
theorem ggX5_strikes_X5_shares : GoodIn wsX5_strikes wsX5_shares := goodIn_r _ [26, 27, 6, 28, 29, 30, 4, 31, 32, 33, 34, 35, 11, 12, 13, 14, 15, 16, 17, 18, 7, 8, 9, 10, 36, 37, 38, 39, 40, 41, 42, 43, 44, 45, 46, 19, 20, 21, 22, 47, 48, 49, 50, 51, 52, 53, 54, 55, 56, 57] (by decide +kernel) (by decide +kernel)
set_option maxRecDepth 20000 in
theorem gX5_strikes_X5_shares : GoodIn wsX5_strikes (wsV RX5 75 RX5 yX5_shares wsX5_shares) := goodIn_app (goodIn_of _ (by decide +kernel)) ggX5_strikes_X5_shares
theorem dX5_strikes_0 : decode cX5_strikes 0 = .ok (.aload_n 0, 1) := by decide +kernel
theorem dX5_strikes_1 : decode cX5_strikes 1 = .ok (.iload_n 1, 1) := by decide +kernel
theorem dX5_strikes_2 : decode cX5_strikes 2 = .ok (.invokevirtual 79, 3) := by decide +kernel
theorem dX5_strikes_5 : decode cX5_strikes 5 = .ok (.istore_n 2, 1) := by decide +kernel
theorem dX5_strikes_6 : decode cX5_strikes 6 = .ok (.aload_n 0, 1) := by decide +kernel
theorem dX5_strikes_7 : decode cX5_strikes 7 = .ok (.iload_n 1, 1) := by decide +kernel
theorem dX5_strikes_8 : decode cX5_strikes 8 = .ok (.iconst 3, 1) := by decide +kernel
theorem dX5_strikes_9 : decode cX5_strikes 9 = .ok (.iconst 0, 1) := by decide +kernel
theorem dX5_strikes_10 : decode cX5_strikes 10 = .ok (.invokevirtual 71, 3) := by decide +kernel
theorem dX5_strikes_13 : decode cX5_strikes 13 = .ok (.aload_n 0, 1) := by decide +kernel
theorem dX5_strikes_14 : decode cX5_strikes 14 = .ok (.iload_n 1, 1) := by decide +kernel
theorem dX5_strikes_15 : decode cX5_strikes 15 = .ok (.iload_n 2, 1) := by decide +kernel
theorem dX5_strikes_16 : decode cX5_strikes 16 = .ok (.invokevirtual 75, 3) := by decide +kernel
theorem dX5_strikes_19 : decode cX5_strikes 19 = .ok (.iload_n 1, 1) := by decide +kernel
theorem dX5_strikes_20 : decode cX5_strikes 20 = .ok (.ifCond .le 12, 3) := by decide +kernel
theorem dX5_strikes_23 : decode cX5_strikes 23 = .ok (.aload_n 0, 1) := by decide +kernel
theorem dX5_strikes_24 : decode cX5_strikes 24 = .ok (.iload_n 1, 1) := by decide +kernel
theorem dX5_strikes_25 : decode cX5_strikes 25 = .ok (.iconst 1, 1) := by decide +kernel
theorem dX5_strikes_26 : decode cX5_strikes 26 = .ok (.isub, 1) := by decide +kernel
theorem dX5_strikes_27 : decode cX5_strikes 27 = .ok (.iload_n 2, 1) := by decide +kernel
theorem dX5_strikes_28 : decode cX5_strikes 28 = .ok (.ineg, 1) := by decide +kernel
theorem dX5_strikes_29 : decode cX5_strikes 29 = .ok (.invokevirtual 75, 3) := by decide +kernel
theorem dX5_strikes_32 : decode cX5_strikes 32 = .ok (.return_, 1) := by decide +kernel
set_option maxRecDepth 20000 in
theorem ggX5_mayStrike_X5_isFloor : GoodIn wsX5_mayStrike wsX5_isFloor := goodIn_r _ [5, 6, 7, 8, 4, 9, 71, 72, 73, 74, 75, 76, 77, 78, 79, 80, 81] (by decide +kernel) (by decide +kernel)
set_option maxRecDepth 20000 in
theorem gX5_mayStrike_X5_isFloor : GoodIn wsX5_mayStrike (wsV RX5 82 RX5 yX5_isFloor wsX5_isFloor) := goodIn_app (goodIn_of _ (by decide +kernel)) ggX5_mayStrike_X5_isFloor
set_option maxRecDepth 20000 in
theorem ggX5_mayStrike_X5_isPropped : GoodIn wsX5_mayStrike wsX5_isPropped := goodIn_r _ [13, 14, 15, 16, 4, 17, 6, 71, 72, 73, 74, 75, 76, 77, 78, 79, 80, 81] (by decide +kernel) (by decide +kernel)
set_option maxRecDepth 20000 in
theorem gX5_mayStrike_X5_isPropped : GoodIn wsX5_mayStrike (wsV RX5 55 RX5 yX5_isPropped wsX5_isPropped) := goodIn_app (goodIn_of _ (by decide +kernel)) ggX5_mayStrike_X5_isPropped
set_option maxRecDepth 20000 in
theorem ggX5_mayStrike_X5_lays : GoodIn wsX5_mayStrike wsX5_lays := goodIn_r _ [21, 22, 6, 71, 72, 73, 74, 75, 76, 77, 78, 79, 80, 81] (by decide +kernel) (by decide +kernel)
set_option maxRecDepth 20000 in
theorem gX5_mayStrike_X5_lays : GoodIn wsX5_mayStrike (wsV RX5 85 RX5 yX5_lays wsX5_lays) := goodIn_app (goodIn_of _ (by decide +kernel)) ggX5_mayStrike_X5_lays
set_option maxRecDepth 20000 in
theorem ggX5_mayStrike_X5_strikes : GoodIn wsX5_mayStrike wsX5_strikes := goodIn_r _ [26, 27, 28, 29, 4, 30, 6, 31, 32, 33, 34, 10, 11, 12, 13, 14, 15, 16, 17, 35, 36, 37, 38, 39, 40, 41, 42, 43, 44, 45, 46, 47, 48, 49, 50, 51, 52, 53, 54, 55, 56, 57, 58, 59, 60, 61, 62, 71, 72, 73, 74, 75, 76, 77, 78, 79, 80, 81] (by decide +kernel) (by decide +kernel)
set_option maxRecDepth 20000 in
theorem gX5_mayStrike_X5_strikes : GoodIn wsX5_mayStrike (wsV RX5 88 RX5 yX5_strikes wsX5_strikes) := goodIn_app (goodIn_of _ (by decide +kernel)) ggX5_mayStrike_X5_strikes
set_option maxRecDepth 20000 in
theorem ggX5_mayStrike_X5_weak : GoodIn wsX5_mayStrike wsX5_weak := goodIn_r _ [66, 6, 14, 15, 16, 4, 17, 56, 57, 58, 59, 52, 53, 54, 55, 60, 61, 62, 71, 72, 73, 74, 75, 76, 77, 78, 79, 80, 81] (by decide +kernel) (by decide +kernel)
set_option maxRecDepth 20000 in
theorem gX5_mayStrike_X5_weak : GoodIn wsX5_mayStrike (wsV RX5 92 RX5 yX5_weak wsX5_weak) := goodIn_app (goodIn_of _ (by decide +kernel)) ggX5_mayStrike_X5_weak
set_option maxRecDepth 20000 in
theorem ggX5_mayStrike_X5_takesBack : GoodIn wsX5_mayStrike wsX5_takesBack := goodIn_r _ [70, 6, 22, 71, 72, 73, 74, 75, 76, 77, 78, 79, 80, 81] (by decide +kernel) (by decide +kernel)
set_option maxRecDepth 20000 in
theorem gX5_mayStrike_X5_takesBack : GoodIn wsX5_mayStrike (wsV RX5 96 RX5 yX5_takesBack wsX5_takesBack) := goodIn_app (goodIn_of _ (by decide +kernel)) ggX5_mayStrike_X5_takesBack
theorem dX5_mayStrike_0 : decode cX5_mayStrike 0 = .ok (.aload_n 0, 1) := by decide +kernel
theorem dX5_mayStrike_1 : decode cX5_mayStrike 1 = .ok (.iload_n 1, 1) := by decide +kernel
theorem dX5_mayStrike_2 : decode cX5_mayStrike 2 = .ok (.invokevirtual 82, 3) := by decide +kernel
theorem dX5_mayStrike_5 : decode cX5_mayStrike 5 = .ok (.ifCond .eq 11, 3) := by decide +kernel
theorem dX5_mayStrike_8 : decode cX5_mayStrike 8 = .ok (.aload_n 0, 1) := by decide +kernel
theorem dX5_mayStrike_9 : decode cX5_mayStrike 9 = .ok (.iload_n 1, 1) := by decide +kernel
theorem dX5_mayStrike_10 : decode cX5_mayStrike 10 = .ok (.invokevirtual 55, 3) := by decide +kernel
theorem dX5_mayStrike_13 : decode cX5_mayStrike 13 = .ok (.ifCond .ne 5, 3) := by decide +kernel
theorem dX5_mayStrike_16 : decode cX5_mayStrike 16 = .ok (.iconst 0, 1) := by decide +kernel
theorem dX5_mayStrike_17 : decode cX5_mayStrike 17 = .ok (.ireturn, 1) := by decide +kernel
theorem dX5_mayStrike_18 : decode cX5_mayStrike 18 = .ok (.aload_n 0, 1) := by decide +kernel
theorem dX5_mayStrike_19 : decode cX5_mayStrike 19 = .ok (.invokevirtual 85, 3) := by decide +kernel
theorem dX5_mayStrike_22 : decode cX5_mayStrike 22 = .ok (.aload_n 0, 1) := by decide +kernel
theorem dX5_mayStrike_23 : decode cX5_mayStrike 23 = .ok (.iload_n 1, 1) := by decide +kernel
theorem dX5_mayStrike_24 : decode cX5_mayStrike 24 = .ok (.invokevirtual 88, 3) := by decide +kernel
theorem dX5_mayStrike_27 : decode cX5_mayStrike 27 = .ok (.aload_n 0, 1) := by decide +kernel
theorem dX5_mayStrike_28 : decode cX5_mayStrike 28 = .ok (.invokevirtual 92, 3) := by decide +kernel
theorem dX5_mayStrike_31 : decode cX5_mayStrike 31 = .ok (.ifCond .ne 7, 3) := by decide +kernel
theorem dX5_mayStrike_34 : decode cX5_mayStrike 34 = .ok (.iconst 1, 1) := by decide +kernel
theorem dX5_mayStrike_35 : decode cX5_mayStrike 35 = .ok (.goto 4, 3) := by decide +kernel
theorem dX5_mayStrike_38 : decode cX5_mayStrike 38 = .ok (.iconst 0, 1) := by decide +kernel
theorem dX5_mayStrike_39 : decode cX5_mayStrike 39 = .ok (.istore_n 2, 1) := by decide +kernel
theorem dX5_mayStrike_40 : decode cX5_mayStrike 40 = .ok (.aload_n 0, 1) := by decide +kernel
theorem dX5_mayStrike_41 : decode cX5_mayStrike 41 = .ok (.invokevirtual 96, 3) := by decide +kernel
theorem dX5_mayStrike_44 : decode cX5_mayStrike 44 = .ok (.iload_n 2, 1) := by decide +kernel
theorem dX5_mayStrike_45 : decode cX5_mayStrike 45 = .ok (.ireturn, 1) := by decide +kernel
set_option maxRecDepth 20000 in
theorem ggX5_mayPour_X5_lays : GoodIn wsX5_mayPour wsX5_lays := goodIn_r _ [6, 7, 1, 60, 61, 62, 63, 64, 65, 66, 67, 68, 69, 70] (by decide +kernel) (by decide +kernel)
set_option maxRecDepth 20000 in
theorem gX5_mayPour_X5_lays : GoodIn wsX5_mayPour (wsV RX5 85 RX5 yX5_lays wsX5_lays) := goodIn_app (goodIn_of _ (by decide +kernel)) ggX5_mayPour_X5_lays
set_option maxRecDepth 20000 in
theorem ggX5_mayPour_X5_pours : GoodIn wsX5_mayPour wsX5_pours := goodIn_r _ [11, 1, 12, 13, 14, 5, 15, 16, 17, 18, 19, 20, 21, 22, 23, 24, 25, 26, 27, 28, 29, 30, 31, 32, 33, 34, 35, 36, 37, 38, 39, 40, 41, 42, 43, 44, 45, 46, 47, 48, 49, 50, 51, 60, 61, 62, 63, 64, 65, 66, 67, 68, 69, 70] (by decide +kernel) (by decide +kernel)
set_option maxRecDepth 20000 in
theorem gX5_mayPour_X5_pours : GoodIn wsX5_mayPour (wsV RX5 99 RX5 yX5_pours wsX5_pours) := goodIn_app (goodIn_of _ (by decide +kernel)) ggX5_mayPour_X5_pours
set_option maxRecDepth 20000 in
theorem ggX5_mayPour_X5_weak : GoodIn wsX5_mayPour wsX5_weak := goodIn_r _ [55, 1, 33, 34, 35, 5, 36, 45, 46, 47, 48, 41, 42, 43, 44, 49, 50, 51, 60, 61, 62, 63, 64, 65, 66, 67, 68, 69, 70] (by decide +kernel) (by decide +kernel)
set_option maxRecDepth 20000 in
theorem gX5_mayPour_X5_weak : GoodIn wsX5_mayPour (wsV RX5 92 RX5 yX5_weak wsX5_weak) := goodIn_app (goodIn_of _ (by decide +kernel)) ggX5_mayPour_X5_weak
set_option maxRecDepth 20000 in
theorem ggX5_mayPour_X5_takesBack : GoodIn wsX5_mayPour wsX5_takesBack := goodIn_r _ [59, 1, 7, 60, 61, 62, 63, 64, 65, 66, 67, 68, 69, 70] (by decide +kernel) (by decide +kernel)
set_option maxRecDepth 20000 in
theorem gX5_mayPour_X5_takesBack : GoodIn wsX5_mayPour (wsV RX5 96 RX5 yX5_takesBack wsX5_takesBack) := goodIn_app (goodIn_of _ (by decide +kernel)) ggX5_mayPour_X5_takesBack
theorem dX5_mayPour_0 : decode cX5_mayPour 0 = .ok (.aload_n 0, 1) := by decide +kernel
theorem dX5_mayPour_1 : decode cX5_mayPour 1 = .ok (.getfield 7, 3) := by decide +kernel
theorem dX5_mayPour_4 : decode cX5_mayPour 4 = .ok (.iconst 1, 1) := by decide +kernel
theorem dX5_mayPour_5 : decode cX5_mayPour 5 = .ok (.iaload, 1) := by decide +kernel
theorem dX5_mayPour_6 : decode cX5_mayPour 6 = .ok (.bipush 8, 2) := by decide +kernel
theorem dX5_mayPour_8 : decode cX5_mayPour 8 = .ok (.if_icmp .ne 5, 3) := by decide +kernel
theorem dX5_mayPour_11 : decode cX5_mayPour 11 = .ok (.iconst 0, 1) := by decide +kernel
theorem dX5_mayPour_12 : decode cX5_mayPour 12 = .ok (.ireturn, 1) := by decide +kernel
theorem dX5_mayPour_13 : decode cX5_mayPour 13 = .ok (.aload_n 0, 1) := by decide +kernel
theorem dX5_mayPour_14 : decode cX5_mayPour 14 = .ok (.invokevirtual 85, 3) := by decide +kernel
theorem dX5_mayPour_17 : decode cX5_mayPour 17 = .ok (.aload_n 0, 1) := by decide +kernel
theorem dX5_mayPour_18 : decode cX5_mayPour 18 = .ok (.invokevirtual 99, 3) := by decide +kernel
theorem dX5_mayPour_21 : decode cX5_mayPour 21 = .ok (.aload_n 0, 1) := by decide +kernel
theorem dX5_mayPour_22 : decode cX5_mayPour 22 = .ok (.invokevirtual 92, 3) := by decide +kernel
theorem dX5_mayPour_25 : decode cX5_mayPour 25 = .ok (.ifCond .ne 7, 3) := by decide +kernel
theorem dX5_mayPour_28 : decode cX5_mayPour 28 = .ok (.iconst 1, 1) := by decide +kernel
theorem dX5_mayPour_29 : decode cX5_mayPour 29 = .ok (.goto 4, 3) := by decide +kernel
theorem dX5_mayPour_32 : decode cX5_mayPour 32 = .ok (.iconst 0, 1) := by decide +kernel
theorem dX5_mayPour_33 : decode cX5_mayPour 33 = .ok (.istore_n 1, 1) := by decide +kernel
theorem dX5_mayPour_34 : decode cX5_mayPour 34 = .ok (.aload_n 0, 1) := by decide +kernel
theorem dX5_mayPour_35 : decode cX5_mayPour 35 = .ok (.invokevirtual 96, 3) := by decide +kernel
theorem dX5_mayPour_38 : decode cX5_mayPour 38 = .ok (.iload_n 1, 1) := by decide +kernel
theorem dX5_mayPour_39 : decode cX5_mayPour 39 = .ok (.ireturn, 1) := by decide +kernel
set_option maxRecDepth 20000 in
theorem ggX5_earliest_X5_mayStrike : GoodIn wsX5_earliest wsX5_mayStrike := goodIn_r _ [6, 7, 8, 9, 5, 10, 1, 11, 12, 13, 14, 15, 16, 17, 18, 19, 20, 21, 22, 23, 24, 25, 26, 27, 28, 29, 30, 31, 32, 33, 34, 35, 36, 37, 38, 39, 40, 41, 42, 43, 44, 45, 46, 47, 48, 49, 50, 51, 52, 53, 54, 55, 56, 57, 58, 59, 60, 61, 62, 63, 64, 65, 66, 67, 68, 69, 70, 71, 72, 73, 74, 75, 76, 77, 78, 79, 80, 81, 82, 83, 84, 85] (by decide +kernel) (by decide +kernel)
set_option maxRecDepth 20000 in
theorem gX5_earliest_X5_mayStrike : GoodIn wsX5_earliest (wsV RX5 102 RX5 yX5_mayStrike wsX5_mayStrike) := goodIn_app (goodIn_of _ (by decide +kernel)) ggX5_earliest_X5_mayStrike
theorem dX5_earliest_0 : decode cX5_earliest 0 = .ok (.aload_n 0, 1) := by decide +kernel
theorem dX5_earliest_1 : decode cX5_earliest 1 = .ok (.getfield 7, 3) := by decide +kernel
theorem dX5_earliest_4 : decode cX5_earliest 4 = .ok (.iconst 0, 1) := by decide +kernel
theorem dX5_earliest_5 : decode cX5_earliest 5 = .ok (.iaload, 1) := by decide +kernel
theorem dX5_earliest_6 : decode cX5_earliest 6 = .ok (.istore_n 2, 1) := by decide +kernel
theorem dX5_earliest_7 : decode cX5_earliest 7 = .ok (.iconst (-1), 1) := by decide +kernel
theorem dX5_earliest_8 : decode cX5_earliest 8 = .ok (.istore_n 3, 1) := by decide +kernel
theorem dX5_earliest_9 : decode cX5_earliest 9 = .ok (.iconst 0, 1) := by decide +kernel
theorem dX5_earliest_10 : decode cX5_earliest 10 = .ok (.istore 4, 2) := by decide +kernel
theorem dX5_earliest_12 : decode cX5_earliest 12 = .ok (.iload 4, 2) := by decide +kernel
theorem dX5_earliest_14 : decode cX5_earliest 14 = .ok (.bipush 61, 2) := by decide +kernel
theorem dX5_earliest_16 : decode cX5_earliest 16 = .ok (.if_icmp .ge 39, 3) := by decide +kernel
theorem dX5_earliest_19 : decode cX5_earliest 19 = .ok (.iload_n 3, 1) := by decide +kernel
theorem dX5_earliest_20 : decode cX5_earliest 20 = .ok (.iconst (-1), 1) := by decide +kernel
theorem dX5_earliest_21 : decode cX5_earliest 21 = .ok (.if_icmp .ne 34, 3) := by decide +kernel
theorem dX5_earliest_24 : decode cX5_earliest 24 = .ok (.aload_n 0, 1) := by decide +kernel
theorem dX5_earliest_25 : decode cX5_earliest 25 = .ok (.getfield 7, 3) := by decide +kernel
theorem dX5_earliest_28 : decode cX5_earliest 28 = .ok (.iconst 0, 1) := by decide +kernel
theorem dX5_earliest_29 : decode cX5_earliest 29 = .ok (.iload_n 2, 1) := by decide +kernel
theorem dX5_earliest_30 : decode cX5_earliest 30 = .ok (.iload 4, 2) := by decide +kernel
theorem dX5_earliest_32 : decode cX5_earliest 32 = .ok (.iadd, 1) := by decide +kernel
theorem dX5_earliest_33 : decode cX5_earliest 33 = .ok (.iastore, 1) := by decide +kernel
theorem dX5_earliest_34 : decode cX5_earliest 34 = .ok (.aload_n 0, 1) := by decide +kernel
theorem dX5_earliest_35 : decode cX5_earliest 35 = .ok (.iload_n 1, 1) := by decide +kernel
theorem dX5_earliest_36 : decode cX5_earliest 36 = .ok (.invokevirtual 102, 3) := by decide +kernel
theorem dX5_earliest_39 : decode cX5_earliest 39 = .ok (.ifCond .eq 8, 3) := by decide +kernel
theorem dX5_earliest_42 : decode cX5_earliest 42 = .ok (.iload 4, 2) := by decide +kernel
theorem dX5_earliest_44 : decode cX5_earliest 44 = .ok (.goto 4, 3) := by decide +kernel
theorem dX5_earliest_47 : decode cX5_earliest 47 = .ok (.iconst (-1), 1) := by decide +kernel
theorem dX5_earliest_48 : decode cX5_earliest 48 = .ok (.istore_n 3, 1) := by decide +kernel
theorem dX5_earliest_49 : decode cX5_earliest 49 = .ok (.iinc 4 1, 3) := by decide +kernel
theorem dX5_earliest_52 : decode cX5_earliest 52 = .ok (.goto (-40), 3) := by decide +kernel
theorem dX5_earliest_55 : decode cX5_earliest 55 = .ok (.aload_n 0, 1) := by decide +kernel
theorem dX5_earliest_56 : decode cX5_earliest 56 = .ok (.getfield 7, 3) := by decide +kernel
theorem dX5_earliest_59 : decode cX5_earliest 59 = .ok (.iconst 0, 1) := by decide +kernel
theorem dX5_earliest_60 : decode cX5_earliest 60 = .ok (.iload_n 2, 1) := by decide +kernel
theorem dX5_earliest_61 : decode cX5_earliest 61 = .ok (.iastore, 1) := by decide +kernel
theorem dX5_earliest_62 : decode cX5_earliest 62 = .ok (.iload_n 3, 1) := by decide +kernel
theorem dX5_earliest_63 : decode cX5_earliest 63 = .ok (.ireturn, 1) := by decide +kernel
set_option maxRecDepth 20000 in
theorem ggX5_harm_X5_isPropped : GoodIn wsX5_harm wsX5_isPropped := goodIn_r _ [6, 7, 8, 9, 5, 10, 1, 60, 61, 62, 63, 64, 65, 66, 67, 68, 69, 70] (by decide +kernel) (by decide +kernel)
set_option maxRecDepth 20000 in
theorem gX5_harm_X5_isPropped : GoodIn wsX5_harm (wsV RX5 55 RX5 yX5_isPropped wsX5_isPropped) := goodIn_app (goodIn_of _ (by decide +kernel)) ggX5_harm_X5_isPropped
set_option maxRecDepth 20000 in
theorem ggX5_harm_X5_lays : GoodIn wsX5_harm wsX5_lays := goodIn_r _ [14, 15, 1, 60, 61, 62, 63, 64, 65, 66, 67, 68, 69, 70] (by decide +kernel) (by decide +kernel)
set_option maxRecDepth 20000 in
theorem gX5_harm_X5_lays : GoodIn wsX5_harm (wsV RX5 85 RX5 yX5_lays wsX5_lays) := goodIn_app (goodIn_of _ (by decide +kernel)) ggX5_harm_X5_lays
set_option maxRecDepth 20000 in
theorem ggX5_harm_X5_strikes : GoodIn wsX5_harm wsX5_strikes := goodIn_r _ [19, 20, 21, 22, 5, 23, 1, 24, 25, 26, 27, 2, 3, 4, 6, 7, 8, 9, 10, 28, 29, 30, 31, 32, 33, 34, 35, 36, 37, 38, 39, 40, 41, 42, 43, 44, 45, 46, 47, 48, 49, 50, 51, 52, 53, 54, 55, 60, 61, 62, 63, 64, 65, 66, 67, 68, 69, 70] (by decide +kernel) (by decide +kernel)
set_option maxRecDepth 20000 in
theorem gX5_harm_X5_strikes : GoodIn wsX5_harm (wsV RX5 88 RX5 yX5_strikes wsX5_strikes) := goodIn_app (goodIn_of _ (by decide +kernel)) ggX5_harm_X5_strikes
set_option maxRecDepth 20000 in
theorem ggX5_harm_X5_of : GoodIn wsX5_harm wsX5_of := goodIn_r _ [10, 1, 60, 61, 62, 63, 64, 65, 66, 67, 68, 69, 70] (by decide +kernel) (by decide +kernel)
set_option maxRecDepth 20000 in
theorem gX5_harm_X5_of : GoodIn wsX5_harm (wsV RX5 44 RX5 yX5_of wsX5_of) := goodIn_app (goodIn_of _ (by decide +kernel)) ggX5_harm_X5_of
set_option maxRecDepth 20000 in
theorem ggX5_harm_X5_strength : GoodIn wsX5_harm wsX5_strength := goodIn_r _ [52, 1, 45, 46, 47, 5, 48, 7, 8, 9, 10, 53, 54, 55, 60, 61, 62, 63, 64, 65, 66, 67, 68, 69, 70] (by decide +kernel) (by decide +kernel)
set_option maxRecDepth 20000 in
theorem gX5_harm_X5_strength : GoodIn wsX5_harm (wsV RX5 68 RX5 yX5_strength wsX5_strength) := goodIn_app (goodIn_of _ (by decide +kernel)) ggX5_harm_X5_strength
set_option maxRecDepth 20000 in
theorem ggX5_harm_X5_takesBack : GoodIn wsX5_harm wsX5_takesBack := goodIn_r _ [59, 1, 15, 60, 61, 62, 63, 64, 65, 66, 67, 68, 69, 70] (by decide +kernel) (by decide +kernel)
set_option maxRecDepth 20000 in
theorem gX5_harm_X5_takesBack : GoodIn wsX5_harm (wsV RX5 96 RX5 yX5_takesBack wsX5_takesBack) := goodIn_app (goodIn_of _ (by decide +kernel)) ggX5_harm_X5_takesBack
theorem dX5_harm_0 : decode cX5_harm 0 = .ok (.aload_n 0, 1) := by decide +kernel
theorem dX5_harm_1 : decode cX5_harm 1 = .ok (.iload_n 1, 1) := by decide +kernel
theorem dX5_harm_2 : decode cX5_harm 2 = .ok (.invokevirtual 55, 3) := by decide +kernel
theorem dX5_harm_5 : decode cX5_harm 5 = .ok (.ifCond .ne 5, 3) := by decide +kernel
theorem dX5_harm_8 : decode cX5_harm 8 = .ok (.iconst (-1), 1) := by decide +kernel
theorem dX5_harm_9 : decode cX5_harm 9 = .ok (.ireturn, 1) := by decide +kernel
theorem dX5_harm_10 : decode cX5_harm 10 = .ok (.aload_n 0, 1) := by decide +kernel
theorem dX5_harm_11 : decode cX5_harm 11 = .ok (.invokevirtual 85, 3) := by decide +kernel
theorem dX5_harm_14 : decode cX5_harm 14 = .ok (.aload_n 0, 1) := by decide +kernel
theorem dX5_harm_15 : decode cX5_harm 15 = .ok (.iload_n 1, 1) := by decide +kernel
theorem dX5_harm_16 : decode cX5_harm 16 = .ok (.invokevirtual 88, 3) := by decide +kernel
theorem dX5_harm_19 : decode cX5_harm 19 = .ok (.aload_n 0, 1) := by decide +kernel
theorem dX5_harm_20 : decode cX5_harm 20 = .ok (.iconst 0, 1) := by decide +kernel
theorem dX5_harm_21 : decode cX5_harm 21 = .ok (.iconst 2, 1) := by decide +kernel
theorem dX5_harm_22 : decode cX5_harm 22 = .ok (.invokevirtual 44, 3) := by decide +kernel
theorem dX5_harm_25 : decode cX5_harm 25 = .ok (.aload_n 0, 1) := by decide +kernel
theorem dX5_harm_26 : decode cX5_harm 26 = .ok (.iconst 0, 1) := by decide +kernel
theorem dX5_harm_27 : decode cX5_harm 27 = .ok (.invokevirtual 68, 3) := by decide +kernel
theorem dX5_harm_30 : decode cX5_harm 30 = .ok (.isub, 1) := by decide +kernel
theorem dX5_harm_31 : decode cX5_harm 31 = .ok (.istore_n 2, 1) := by decide +kernel
theorem dX5_harm_32 : decode cX5_harm 32 = .ok (.iconst 1, 1) := by decide +kernel
theorem dX5_harm_33 : decode cX5_harm 33 = .ok (.istore_n 3, 1) := by decide +kernel
theorem dX5_harm_34 : decode cX5_harm 34 = .ok (.iload_n 3, 1) := by decide +kernel
theorem dX5_harm_35 : decode cX5_harm 35 = .ok (.aload_n 0, 1) := by decide +kernel
theorem dX5_harm_36 : decode cX5_harm 36 = .ok (.getfield 7, 3) := by decide +kernel
theorem dX5_harm_39 : decode cX5_harm 39 = .ok (.iconst 1, 1) := by decide +kernel
theorem dX5_harm_40 : decode cX5_harm 40 = .ok (.iaload, 1) := by decide +kernel
theorem dX5_harm_41 : decode cX5_harm 41 = .ok (.if_icmp .ge 36, 3) := by decide +kernel
theorem dX5_harm_44 : decode cX5_harm 44 = .ok (.aload_n 0, 1) := by decide +kernel
theorem dX5_harm_45 : decode cX5_harm 45 = .ok (.iload_n 3, 1) := by decide +kernel
theorem dX5_harm_46 : decode cX5_harm 46 = .ok (.iconst 2, 1) := by decide +kernel
theorem dX5_harm_47 : decode cX5_harm 47 = .ok (.invokevirtual 44, 3) := by decide +kernel
theorem dX5_harm_50 : decode cX5_harm 50 = .ok (.aload_n 0, 1) := by decide +kernel
theorem dX5_harm_51 : decode cX5_harm 51 = .ok (.iload_n 3, 1) := by decide +kernel
theorem dX5_harm_52 : decode cX5_harm 52 = .ok (.invokevirtual 68, 3) := by decide +kernel
theorem dX5_harm_55 : decode cX5_harm 55 = .ok (.isub, 1) := by decide +kernel
theorem dX5_harm_56 : decode cX5_harm 56 = .ok (.istore 4, 2) := by decide +kernel
theorem dX5_harm_58 : decode cX5_harm 58 = .ok (.iload 4, 2) := by decide +kernel
theorem dX5_harm_60 : decode cX5_harm 60 = .ok (.iload_n 2, 1) := by decide +kernel
theorem dX5_harm_61 : decode cX5_harm 61 = .ok (.if_icmp .le 8, 3) := by decide +kernel
theorem dX5_harm_64 : decode cX5_harm 64 = .ok (.iload 4, 2) := by decide +kernel
theorem dX5_harm_66 : decode cX5_harm 66 = .ok (.goto 4, 3) := by decide +kernel
theorem dX5_harm_69 : decode cX5_harm 69 = .ok (.iload_n 2, 1) := by decide +kernel
theorem dX5_harm_70 : decode cX5_harm 70 = .ok (.istore_n 2, 1) := by decide +kernel
theorem dX5_harm_71 : decode cX5_harm 71 = .ok (.iinc 3 1, 3) := by decide +kernel
theorem dX5_harm_74 : decode cX5_harm 74 = .ok (.goto (-40), 3) := by decide +kernel
theorem dX5_harm_77 : decode cX5_harm 77 = .ok (.aload_n 0, 1) := by decide +kernel
theorem dX5_harm_78 : decode cX5_harm 78 = .ok (.invokevirtual 96, 3) := by decide +kernel
theorem dX5_harm_81 : decode cX5_harm 81 = .ok (.iload_n 2, 1) := by decide +kernel
theorem dX5_harm_82 : decode cX5_harm 82 = .ok (.sipush 1000, 3) := by decide +kernel
theorem dX5_harm_85 : decode cX5_harm 85 = .ok (.iadd, 1) := by decide +kernel
theorem dX5_harm_86 : decode cX5_harm 86 = .ok (.ireturn, 1) := by decide +kernel
set_option maxRecDepth 20000 in
theorem ggX5_propped_X5_isPropped : GoodIn wsX5_propped wsX5_isPropped := goodIn_r _ [6, 7, 8, 9, 5, 10, 1, 11, 12, 13, 14, 15, 16, 17, 18, 19, 20, 21] (by decide +kernel) (by decide +kernel)
set_option maxRecDepth 20000 in
theorem gX5_propped_X5_isPropped : GoodIn wsX5_propped (wsV RX5 55 RX5 yX5_isPropped wsX5_isPropped) := goodIn_app (goodIn_of _ (by decide +kernel)) ggX5_propped_X5_isPropped
theorem dX5_propped_0 : decode cX5_propped 0 = .ok (.iconst 0, 1) := by decide +kernel
theorem dX5_propped_1 : decode cX5_propped 1 = .ok (.istore_n 1, 1) := by decide +kernel
theorem dX5_propped_2 : decode cX5_propped 2 = .ok (.iconst 0, 1) := by decide +kernel
theorem dX5_propped_3 : decode cX5_propped 3 = .ok (.istore_n 2, 1) := by decide +kernel
theorem dX5_propped_4 : decode cX5_propped 4 = .ok (.iload_n 2, 1) := by decide +kernel
theorem dX5_propped_5 : decode cX5_propped 5 = .ok (.aload_n 0, 1) := by decide +kernel
theorem dX5_propped_6 : decode cX5_propped 6 = .ok (.getfield 7, 3) := by decide +kernel
theorem dX5_propped_9 : decode cX5_propped 9 = .ok (.iconst 1, 1) := by decide +kernel
theorem dX5_propped_10 : decode cX5_propped 10 = .ok (.iaload, 1) := by decide +kernel
theorem dX5_propped_11 : decode cX5_propped 11 = .ok (.if_icmp .ge 27, 3) := by decide +kernel
theorem dX5_propped_14 : decode cX5_propped 14 = .ok (.iload_n 1, 1) := by decide +kernel
theorem dX5_propped_15 : decode cX5_propped 15 = .ok (.aload_n 0, 1) := by decide +kernel
theorem dX5_propped_16 : decode cX5_propped 16 = .ok (.iload_n 2, 1) := by decide +kernel
theorem dX5_propped_17 : decode cX5_propped 17 = .ok (.invokevirtual 55, 3) := by decide +kernel
theorem dX5_propped_20 : decode cX5_propped 20 = .ok (.ifCond .eq 9, 3) := by decide +kernel
theorem dX5_propped_23 : decode cX5_propped 23 = .ok (.iconst 1, 1) := by decide +kernel
theorem dX5_propped_24 : decode cX5_propped 24 = .ok (.iload_n 2, 1) := by decide +kernel
theorem dX5_propped_25 : decode cX5_propped 25 = .ok (.ishl, 1) := by decide +kernel
theorem dX5_propped_26 : decode cX5_propped 26 = .ok (.goto 4, 3) := by decide +kernel
theorem dX5_propped_29 : decode cX5_propped 29 = .ok (.iconst 0, 1) := by decide +kernel
theorem dX5_propped_30 : decode cX5_propped 30 = .ok (.ior, 1) := by decide +kernel
theorem dX5_propped_31 : decode cX5_propped 31 = .ok (.istore_n 1, 1) := by decide +kernel
theorem dX5_propped_32 : decode cX5_propped 32 = .ok (.iinc 2 1, 3) := by decide +kernel
theorem dX5_propped_35 : decode cX5_propped 35 = .ok (.goto (-31), 3) := by decide +kernel
theorem dX5_propped_38 : decode cX5_propped 38 = .ok (.iload_n 1, 1) := by decide +kernel
theorem dX5_propped_39 : decode cX5_propped 39 = .ok (.ireturn, 1) := by decide +kernel
set_option maxRecDepth 20000 in
theorem ggX5_may_X5_mayStrike : GoodIn wsX5_may wsX5_mayStrike := goodIn_r _ [6, 7, 8, 9, 5, 10, 1, 11, 12, 13, 14, 15, 16, 17, 18, 19, 20, 21, 22, 23, 24, 25, 26, 27, 28, 29, 30, 31, 32, 33, 34, 35, 36, 37, 38, 39, 40, 41, 42, 43, 44, 45, 46, 47, 48, 49, 50, 51, 52, 53, 54, 55, 56, 57, 58, 59, 60, 61, 62, 63, 64, 65, 66, 67, 68, 69, 70, 71, 72, 73, 74, 75, 76, 77, 78, 79, 80, 81, 82, 83, 84, 85] (by decide +kernel) (by decide +kernel)
set_option maxRecDepth 20000 in
theorem gX5_may_X5_mayStrike : GoodIn wsX5_may (wsV RX5 102 RX5 yX5_mayStrike wsX5_mayStrike) := goodIn_app (goodIn_of _ (by decide +kernel)) ggX5_may_X5_mayStrike
theorem dX5_may_0 : decode cX5_may 0 = .ok (.iconst 0, 1) := by decide +kernel
theorem dX5_may_1 : decode cX5_may 1 = .ok (.istore_n 1, 1) := by decide +kernel
theorem dX5_may_2 : decode cX5_may 2 = .ok (.iconst 0, 1) := by decide +kernel
theorem dX5_may_3 : decode cX5_may 3 = .ok (.istore_n 2, 1) := by decide +kernel
theorem dX5_may_4 : decode cX5_may 4 = .ok (.iload_n 2, 1) := by decide +kernel
theorem dX5_may_5 : decode cX5_may 5 = .ok (.aload_n 0, 1) := by decide +kernel
theorem dX5_may_6 : decode cX5_may 6 = .ok (.getfield 7, 3) := by decide +kernel
theorem dX5_may_9 : decode cX5_may 9 = .ok (.iconst 1, 1) := by decide +kernel
theorem dX5_may_10 : decode cX5_may 10 = .ok (.iaload, 1) := by decide +kernel
theorem dX5_may_11 : decode cX5_may 11 = .ok (.if_icmp .ge 27, 3) := by decide +kernel
theorem dX5_may_14 : decode cX5_may 14 = .ok (.iload_n 1, 1) := by decide +kernel
theorem dX5_may_15 : decode cX5_may 15 = .ok (.aload_n 0, 1) := by decide +kernel
theorem dX5_may_16 : decode cX5_may 16 = .ok (.iload_n 2, 1) := by decide +kernel
theorem dX5_may_17 : decode cX5_may 17 = .ok (.invokevirtual 102, 3) := by decide +kernel
theorem dX5_may_20 : decode cX5_may 20 = .ok (.ifCond .eq 9, 3) := by decide +kernel
theorem dX5_may_23 : decode cX5_may 23 = .ok (.iconst 1, 1) := by decide +kernel
theorem dX5_may_24 : decode cX5_may 24 = .ok (.iload_n 2, 1) := by decide +kernel
theorem dX5_may_25 : decode cX5_may 25 = .ok (.ishl, 1) := by decide +kernel
theorem dX5_may_26 : decode cX5_may 26 = .ok (.goto 4, 3) := by decide +kernel
theorem dX5_may_29 : decode cX5_may 29 = .ok (.iconst 0, 1) := by decide +kernel
theorem dX5_may_30 : decode cX5_may 30 = .ok (.ior, 1) := by decide +kernel
theorem dX5_may_31 : decode cX5_may 31 = .ok (.istore_n 1, 1) := by decide +kernel
theorem dX5_may_32 : decode cX5_may 32 = .ok (.iinc 2 1, 3) := by decide +kernel
theorem dX5_may_35 : decode cX5_may 35 = .ok (.goto (-31), 3) := by decide +kernel
theorem dX5_may_38 : decode cX5_may 38 = .ok (.iload_n 1, 1) := by decide +kernel
theorem dX5_may_39 : decode cX5_may 39 = .ok (.ireturn, 1) := by decide +kernel
set_option maxRecDepth 20000 in
theorem ggX5_wrong_X5_isFloor : GoodIn wsX5_wrong wsX5_isFloor := goodIn_r _ [7, 8, 9, 10, 6, 11, 16, 17, 18, 19, 20, 21, 22, 23, 24, 25, 26] (by decide +kernel) (by decide +kernel)
set_option maxRecDepth 20000 in
theorem gX5_wrong_X5_isFloor : GoodIn wsX5_wrong (wsV RX5 82 RX5 yX5_isFloor wsX5_isFloor) := goodIn_app (goodIn_of _ (by decide +kernel)) ggX5_wrong_X5_isFloor
set_option maxRecDepth 20000 in
theorem ggX5_wrong_X5_of : GoodIn wsX5_wrong wsX5_of := goodIn_r _ [15, 8, 16, 17, 18, 19, 20, 21, 22, 23, 24, 25, 26] (by decide +kernel) (by decide +kernel)
set_option maxRecDepth 20000 in
theorem gX5_wrong_X5_of : GoodIn wsX5_wrong (wsV RX5 44 RX5 yX5_of wsX5_of) := goodIn_app (goodIn_of _ (by decide +kernel)) ggX5_wrong_X5_of
theorem dX5_wrong_0 : decode cX5_wrong 0 = .ok (.iconst 0, 1) := by decide +kernel
theorem dX5_wrong_1 : decode cX5_wrong 1 = .ok (.istore_n 1, 1) := by decide +kernel
theorem dX5_wrong_2 : decode cX5_wrong 2 = .ok (.iload_n 1, 1) := by decide +kernel
theorem dX5_wrong_3 : decode cX5_wrong 3 = .ok (.aload_n 0, 1) := by decide +kernel
theorem dX5_wrong_4 : decode cX5_wrong 4 = .ok (.getfield 105, 3) := by decide +kernel
theorem dX5_wrong_7 : decode cX5_wrong 7 = .ok (.if_icmp .ge 52, 3) := by decide +kernel
theorem dX5_wrong_10 : decode cX5_wrong 10 = .ok (.aload_n 0, 1) := by decide +kernel
theorem dX5_wrong_11 : decode cX5_wrong 11 = .ok (.aload_n 0, 1) := by decide +kernel
theorem dX5_wrong_12 : decode cX5_wrong 12 = .ok (.getfield 30, 3) := by decide +kernel
theorem dX5_wrong_15 : decode cX5_wrong 15 = .ok (.iconst 2, 1) := by decide +kernel
theorem dX5_wrong_16 : decode cX5_wrong 16 = .ok (.iload_n 1, 1) := by decide +kernel
theorem dX5_wrong_17 : decode cX5_wrong 17 = .ok (.imul, 1) := by decide +kernel
theorem dX5_wrong_18 : decode cX5_wrong 18 = .ok (.iaload, 1) := by decide +kernel
theorem dX5_wrong_19 : decode cX5_wrong 19 = .ok (.invokevirtual 82, 3) := by decide +kernel
theorem dX5_wrong_22 : decode cX5_wrong 22 = .ok (.ifCond .eq 29, 3) := by decide +kernel
theorem dX5_wrong_25 : decode cX5_wrong 25 = .ok (.aload_n 0, 1) := by decide +kernel
theorem dX5_wrong_26 : decode cX5_wrong 26 = .ok (.aload_n 0, 1) := by decide +kernel
theorem dX5_wrong_27 : decode cX5_wrong 27 = .ok (.getfield 30, 3) := by decide +kernel
theorem dX5_wrong_30 : decode cX5_wrong 30 = .ok (.iconst 2, 1) := by decide +kernel
theorem dX5_wrong_31 : decode cX5_wrong 31 = .ok (.iload_n 1, 1) := by decide +kernel
theorem dX5_wrong_32 : decode cX5_wrong 32 = .ok (.imul, 1) := by decide +kernel
theorem dX5_wrong_33 : decode cX5_wrong 33 = .ok (.iaload, 1) := by decide +kernel
theorem dX5_wrong_34 : decode cX5_wrong 34 = .ok (.iconst 2, 1) := by decide +kernel
theorem dX5_wrong_35 : decode cX5_wrong 35 = .ok (.invokevirtual 44, 3) := by decide +kernel
theorem dX5_wrong_38 : decode cX5_wrong 38 = .ok (.aload_n 0, 1) := by decide +kernel
theorem dX5_wrong_39 : decode cX5_wrong 39 = .ok (.getfield 30, 3) := by decide +kernel
theorem dX5_wrong_42 : decode cX5_wrong 42 = .ok (.iconst 2, 1) := by decide +kernel
theorem dX5_wrong_43 : decode cX5_wrong 43 = .ok (.iload_n 1, 1) := by decide +kernel
theorem dX5_wrong_44 : decode cX5_wrong 44 = .ok (.imul, 1) := by decide +kernel
theorem dX5_wrong_45 : decode cX5_wrong 45 = .ok (.iconst 1, 1) := by decide +kernel
theorem dX5_wrong_46 : decode cX5_wrong 46 = .ok (.iadd, 1) := by decide +kernel
theorem dX5_wrong_47 : decode cX5_wrong 47 = .ok (.iaload, 1) := by decide +kernel
theorem dX5_wrong_48 : decode cX5_wrong 48 = .ok (.if_icmp .eq 5, 3) := by decide +kernel
theorem dX5_wrong_51 : decode cX5_wrong 51 = .ok (.iload_n 1, 1) := by decide +kernel
theorem dX5_wrong_52 : decode cX5_wrong 52 = .ok (.ireturn, 1) := by decide +kernel
theorem dX5_wrong_53 : decode cX5_wrong 53 = .ok (.iinc 1 1, 3) := by decide +kernel
theorem dX5_wrong_56 : decode cX5_wrong 56 = .ok (.goto (-54), 3) := by decide +kernel
theorem dX5_wrong_59 : decode cX5_wrong 59 = .ok (.iconst (-1), 1) := by decide +kernel
theorem dX5_wrong_60 : decode cX5_wrong 60 = .ok (.ireturn, 1) := by decide +kernel
set_option maxRecDepth 20000 in
theorem ggX5_told_X5_propped : GoodIn wsX5_told wsX5_propped := goodIn_r _ [9, 1, 10, 11, 12, 8, 13, 14, 15, 16, 17, 91, 92, 93, 94, 95, 96, 97, 98, 99, 100, 101] (by decide +kernel) (by decide +kernel)
set_option maxRecDepth 20000 in
theorem gX5_told_X5_propped : GoodIn wsX5_told (wsV RX5 108 RX5 yX5_propped wsX5_propped) := goodIn_app (goodIn_of _ (by decide +kernel)) ggX5_told_X5_propped
set_option maxRecDepth 20000 in
theorem ggX5_told_X5_weak : GoodIn wsX5_told wsX5_weak := goodIn_r _ [21, 1, 14, 15, 16, 8, 17, 22, 23, 24, 25, 26, 27, 28, 29, 30, 31, 32, 91, 92, 93, 94, 95, 96, 97, 98, 99, 100, 101] (by decide +kernel) (by decide +kernel)
set_option maxRecDepth 20000 in
theorem gX5_told_X5_weak : GoodIn wsX5_told (wsV RX5 92 RX5 yX5_weak wsX5_weak) := goodIn_app (goodIn_of _ (by decide +kernel)) ggX5_told_X5_weak
set_option maxRecDepth 20000 in
theorem ggX5_told_X5_may : GoodIn wsX5_told wsX5_may := goodIn_r _ [36, 1, 37, 38, 39, 8, 40, 41, 42, 43, 44, 45, 46, 47, 10, 11, 12, 13, 14, 15, 16, 17, 48, 49, 50, 51, 52, 53, 54, 55, 56, 57, 58, 59, 60, 61, 62, 63, 64, 65, 66, 67, 68, 69, 70, 71, 72, 73, 74, 75, 76, 77, 78, 79, 80, 81, 26, 27, 28, 29, 22, 23, 24, 25, 30, 31, 32, 18, 19, 20, 21, 82, 83, 84, 85, 91, 92, 93, 94, 95, 96, 97, 98, 99, 100, 101] (by decide +kernel) (by decide +kernel)
set_option maxRecDepth 20000 in
theorem gX5_told_X5_may : GoodIn wsX5_told (wsV RX5 111 RX5 yX5_may wsX5_may) := goodIn_app (goodIn_of _ (by decide +kernel)) ggX5_told_X5_may
set_option maxRecDepth 20000 in
theorem ggX5_told_X5_force : GoodIn wsX5_told wsX5_force := goodIn_r _ [60, 1, 61, 62, 63, 8, 64, 10, 11, 12, 13, 14, 15, 16, 17, 91, 92, 93, 94, 95, 96, 97, 98, 99, 100, 101] (by decide +kernel) (by decide +kernel)
set_option maxRecDepth 20000 in
theorem gX5_told_X5_force : GoodIn wsX5_told (wsV RX5 79 RX5 yX5_force wsX5_force) := goodIn_app (goodIn_of _ (by decide +kernel)) ggX5_told_X5_force
set_option maxRecDepth 20000 in
theorem ggX5_told_X5_wrong : GoodIn wsX5_told wsX5_wrong := goodIn_r _ [89, 2, 90, 41, 42, 43, 8, 44, 1, 45, 46, 47, 14, 15, 16, 17, 91, 92, 93, 94, 95, 96, 97, 98, 99, 100, 101] (by decide +kernel) (by decide +kernel)
set_option maxRecDepth 20000 in
theorem gX5_told_X5_wrong : GoodIn wsX5_told (wsV RX5 114 RX5 yX5_wrong wsX5_wrong) := goodIn_app (goodIn_of _ (by decide +kernel)) ggX5_told_X5_wrong
end
section
theorem dX5_told_0 : decode cX5_told 0 = .ok (.iload_n 1, 1) := by decide +kernel
theorem dX5_told_1 : decode cX5_told 1 = .ok (.tableswitch 140 0 13 #[71, 71, 71, 71, 71, 71, 78, 83, 88, 101, 106, 125, 130, 135], 71) := by decide +kernel
theorem dX5_told_72 : decode cX5_told 72 = .ok (.aload_n 0, 1) := by decide +kernel
theorem dX5_told_73 : decode cX5_told 73 = .ok (.getfield 7, 3) := by decide +kernel
theorem dX5_told_76 : decode cX5_told 76 = .ok (.iload_n 1, 1) := by decide +kernel
theorem dX5_told_77 : decode cX5_told 77 = .ok (.iaload, 1) := by decide +kernel
theorem dX5_told_78 : decode cX5_told 78 = .ok (.ireturn, 1) := by decide +kernel
theorem dX5_told_79 : decode cX5_told 79 = .ok (.aload_n 0, 1) := by decide +kernel
theorem dX5_told_80 : decode cX5_told 80 = .ok (.invokevirtual 108, 3) := by decide +kernel
theorem dX5_told_83 : decode cX5_told 83 = .ok (.ireturn, 1) := by decide +kernel
theorem dX5_told_84 : decode cX5_told 84 = .ok (.aload_n 0, 1) := by decide +kernel
theorem dX5_told_85 : decode cX5_told 85 = .ok (.invokevirtual 92, 3) := by decide +kernel
theorem dX5_told_88 : decode cX5_told 88 = .ok (.ireturn, 1) := by decide +kernel
theorem dX5_told_89 : decode cX5_told 89 = .ok (.aload_n 0, 1) := by decide +kernel
theorem dX5_told_90 : decode cX5_told 90 = .ok (.invokevirtual 92, 3) := by decide +kernel
theorem dX5_told_93 : decode cX5_told 93 = .ok (.ifCond .ne 7, 3) := by decide +kernel
theorem dX5_told_96 : decode cX5_told 96 = .ok (.iconst 1, 1) := by decide +kernel
theorem dX5_told_97 : decode cX5_told 97 = .ok (.goto 4, 3) := by decide +kernel
theorem dX5_told_100 : decode cX5_told 100 = .ok (.iconst 0, 1) := by decide +kernel
theorem dX5_told_101 : decode cX5_told 101 = .ok (.ireturn, 1) := by decide +kernel
theorem dX5_told_102 : decode cX5_told 102 = .ok (.aload_n 0, 1) := by decide +kernel
theorem dX5_told_103 : decode cX5_told 103 = .ok (.invokevirtual 111, 3) := by decide +kernel
theorem dX5_told_106 : decode cX5_told 106 = .ok (.ireturn, 1) := by decide +kernel
theorem dX5_told_107 : decode cX5_told 107 = .ok (.aload_n 0, 1) := by decide +kernel
theorem dX5_told_108 : decode cX5_told 108 = .ok (.getfield 7, 3) := by decide +kernel
theorem dX5_told_111 : decode cX5_told 111 = .ok (.iconst 1, 1) := by decide +kernel
theorem dX5_told_112 : decode cX5_told 112 = .ok (.iaload, 1) := by decide +kernel
theorem dX5_told_113 : decode cX5_told 113 = .ok (.ifCond .ne 7, 3) := by decide +kernel
theorem dX5_told_116 : decode cX5_told 116 = .ok (.iconst 0, 1) := by decide +kernel
theorem dX5_told_117 : decode cX5_told 117 = .ok (.goto 8, 3) := by decide +kernel
theorem dX5_told_120 : decode cX5_told 120 = .ok (.aload_n 0, 1) := by decide +kernel
theorem dX5_told_121 : decode cX5_told 121 = .ok (.iconst 0, 1) := by decide +kernel
theorem dX5_told_122 : decode cX5_told 122 = .ok (.invokevirtual 79, 3) := by decide +kernel
theorem dX5_told_125 : decode cX5_told 125 = .ok (.ireturn, 1) := by decide +kernel
theorem dX5_told_126 : decode cX5_told 126 = .ok (.aload_n 0, 1) := by decide +kernel
theorem dX5_told_127 : decode cX5_told 127 = .ok (.getfield 105, 3) := by decide +kernel
theorem dX5_told_130 : decode cX5_told 130 = .ok (.ireturn, 1) := by decide +kernel
theorem dX5_told_131 : decode cX5_told 131 = .ok (.aload_n 0, 1) := by decide +kernel
theorem dX5_told_132 : decode cX5_told 132 = .ok (.invokevirtual 114, 3) := by decide +kernel
theorem dX5_told_135 : decode cX5_told 135 = .ok (.ireturn, 1) := by decide +kernel
theorem dX5_told_136 : decode cX5_told 136 = .ok (.aload_n 0, 1) := by decide +kernel
theorem dX5_told_137 : decode cX5_told 137 = .ok (.getfield 40, 3) := by decide +kernel
theorem dX5_told_140 : decode cX5_told 140 = .ok (.ireturn, 1) := by decide +kernel
theorem dX5_told_141 : decode cX5_told 141 = .ok (.ldc 117, 2) := by decide +kernel
theorem dX5_told_143 : decode cX5_told 143 = .ok (.ireturn, 1) := by decide +kernel
set_option maxRecDepth 20000 in
theorem ggX5_floor_X5_isFloor : GoodIn wsX5_floor wsX5_isFloor := goodIn_r _ [7, 8, 9, 10, 6, 11, 85, 86, 87, 88, 89, 90, 91, 92, 93, 94, 95] (by decide +kernel) (by decide +kernel)
set_option maxRecDepth 20000 in
theorem gX5_floor_X5_isFloor : GoodIn wsX5_floor (wsV RX5 82 RX5 yX5_isFloor wsX5_isFloor) := goodIn_app (goodIn_of _ (by decide +kernel)) ggX5_floor_X5_isFloor
set_option maxRecDepth 20000 in
theorem ggX5_floor_X5_age : GoodIn wsX5_floor wsX5_age := goodIn_r _ [15, 8, 16, 17, 18, 6, 19, 85, 86, 87, 88, 89, 90, 91, 92, 93, 94, 95] (by decide +kernel) (by decide +kernel)
set_option maxRecDepth 20000 in
theorem gX5_floor_X5_age : GoodIn wsX5_floor (wsV RX5 48 RX5 yX5_age wsX5_age) := goodIn_app (goodIn_of _ (by decide +kernel)) ggX5_floor_X5_age
set_option maxRecDepth 20000 in
theorem ggX5_floor_X5_of : GoodIn wsX5_floor wsX5_of := goodIn_r _ [19, 8, 85, 86, 87, 88, 89, 90, 91, 92, 93, 94, 95] (by decide +kernel) (by decide +kernel)
set_option maxRecDepth 20000 in
theorem gX5_floor_X5_of : GoodIn wsX5_floor (wsV RX5 44 RX5 yX5_of wsX5_of) := goodIn_app (goodIn_of _ (by decide +kernel)) ggX5_floor_X5_of
set_option maxRecDepth 20000 in
theorem ggX5_floor_X5_strength : GoodIn wsX5_floor wsX5_strength := goodIn_r _ [23, 8, 12, 13, 14, 6, 15, 16, 17, 18, 19, 24, 25, 26, 85, 86, 87, 88, 89, 90, 91, 92, 93, 94, 95] (by decide +kernel) (by decide +kernel)
set_option maxRecDepth 20000 in
theorem gX5_floor_X5_strength : GoodIn wsX5_floor (wsV RX5 68 RX5 yX5_strength wsX5_strength) := goodIn_app (goodIn_of _ (by decide +kernel)) ggX5_floor_X5_strength
set_option maxRecDepth 20000 in
theorem ggX5_floor_X5_force : GoodIn wsX5_floor wsX5_force := goodIn_r _ [30, 8, 31, 32, 33, 6, 34, 35, 36, 37, 38, 16, 17, 18, 19, 85, 86, 87, 88, 89, 90, 91, 92, 93, 94, 95] (by decide +kernel) (by decide +kernel)
set_option maxRecDepth 20000 in
theorem gX5_floor_X5_force : GoodIn wsX5_floor (wsV RX5 79 RX5 yX5_force wsX5_force) := goodIn_app (goodIn_of _ (by decide +kernel)) ggX5_floor_X5_force
set_option maxRecDepth 20000 in
theorem ggX5_floor_X5_lowest : GoodIn wsX5_floor wsX5_lowest := goodIn_r _ [42, 35, 36, 37, 6, 38, 16, 17, 18, 19, 8, 85, 86, 87, 88, 89, 90, 91, 92, 93, 94, 95] (by decide +kernel) (by decide +kernel)
set_option maxRecDepth 20000 in
theorem gX5_floor_X5_lowest : GoodIn wsX5_floor (wsV RX5 59 RX5 yX5_lowest wsX5_lowest) := goodIn_app (goodIn_of _ (by decide +kernel)) ggX5_floor_X5_lowest
set_option maxRecDepth 20000 in
theorem ggX5_floor_X5_highest : GoodIn wsX5_floor wsX5_highest := goodIn_r _ [34, 8, 35, 36, 37, 6, 38, 16, 17, 18, 19, 85, 86, 87, 88, 89, 90, 91, 92, 93, 94, 95] (by decide +kernel) (by decide +kernel)
set_option maxRecDepth 20000 in
theorem gX5_floor_X5_highest : GoodIn wsX5_floor (wsV RX5 62 RX5 yX5_highest wsX5_highest) := goodIn_app (goodIn_of _ (by decide +kernel)) ggX5_floor_X5_highest
set_option maxRecDepth 20000 in
theorem ggX5_floor_X5_isGrounded : GoodIn wsX5_floor wsX5_isGrounded := goodIn_r _ [46, 39, 40, 41, 6, 42, 35, 36, 37, 38, 16, 17, 18, 19, 8, 85, 86, 87, 88, 89, 90, 91, 92, 93, 94, 95] (by decide +kernel) (by decide +kernel)
set_option maxRecDepth 20000 in
theorem gX5_floor_X5_isGrounded : GoodIn wsX5_floor (wsV RX5 65 RX5 yX5_isGrounded wsX5_isGrounded) := goodIn_app (goodIn_of _ (by decide +kernel)) ggX5_floor_X5_isGrounded
set_option maxRecDepth 20000 in
theorem ggX5_floor_X5_earliest : GoodIn wsX5_floor wsX5_earliest := goodIn_r _ [50, 8, 51, 52, 53, 6, 54, 3, 4, 5, 7, 9, 10, 11, 35, 36, 37, 38, 16, 17, 18, 19, 55, 56, 57, 58, 59, 60, 61, 62, 63, 27, 28, 29, 30, 31, 32, 33, 34, 64, 65, 66, 67, 68, 69, 70, 71, 72, 43, 44, 45, 46, 39, 40, 41, 42, 12, 13, 14, 15, 20, 21, 22, 23, 24, 25, 26, 73, 74, 75, 76, 77, 78, 79, 80, 85, 86, 87, 88, 89, 90, 91, 92, 93, 94, 95] (by decide +kernel) (by decide +kernel)
set_option maxRecDepth 20000 in
theorem gX5_floor_X5_earliest : GoodIn wsX5_floor (wsV RX5 119 RX5 yX5_earliest wsX5_earliest) := goodIn_app (goodIn_of _ (by decide +kernel)) ggX5_floor_X5_earliest
set_option maxRecDepth 20000 in
theorem ggX5_floor_X5_harm : GoodIn wsX5_floor wsX5_harm := goodIn_r _ [84, 8, 35, 36, 37, 6, 38, 16, 17, 18, 19, 55, 56, 57, 58, 59, 60, 61, 62, 63, 27, 28, 29, 30, 31, 32, 33, 34, 64, 65, 66, 67, 68, 69, 70, 71, 72, 43, 44, 45, 46, 39, 40, 41, 42, 12, 13, 14, 15, 20, 21, 22, 23, 24, 25, 26, 77, 78, 79, 80, 85, 86, 87, 88, 89, 90, 91, 92, 93, 94, 95] (by decide +kernel) (by decide +kernel)
set_option maxRecDepth 20000 in
theorem gX5_floor_X5_harm : GoodIn wsX5_floor (wsV RX5 122 RX5 yX5_harm wsX5_harm) := goodIn_app (goodIn_of _ (by decide +kernel)) ggX5_floor_X5_harm
theorem dX5_floor_0 : decode cX5_floor 0 = .ok (.aload_n 0, 1) := by decide +kernel
theorem dX5_floor_1 : decode cX5_floor 1 = .ok (.iload_n 1, 1) := by decide +kernel
theorem dX5_floor_2 : decode cX5_floor 2 = .ok (.invokevirtual 82, 3) := by decide +kernel
theorem dX5_floor_5 : decode cX5_floor 5 = .ok (.ifCond .ne 6, 3) := by decide +kernel
theorem dX5_floor_8 : decode cX5_floor 8 = .ok (.ldc 118, 2) := by decide +kernel
theorem dX5_floor_10 : decode cX5_floor 10 = .ok (.ireturn, 1) := by decide +kernel
theorem dX5_floor_11 : decode cX5_floor 11 = .ok (.iload_n 2, 1) := by decide +kernel
theorem dX5_floor_12 : decode cX5_floor 12 = .ok (.tableswitch 145 0 10 #[60, 66, 73, 79, 90, 97, 107, 113, 119, 133, 139], 60) := by decide +kernel
theorem dX5_floor_72 : decode cX5_floor 72 = .ok (.aload_n 0, 1) := by decide +kernel
theorem dX5_floor_73 : decode cX5_floor 73 = .ok (.iload_n 1, 1) := by decide +kernel
theorem dX5_floor_74 : decode cX5_floor 74 = .ok (.invokevirtual 48, 3) := by decide +kernel
theorem dX5_floor_77 : decode cX5_floor 77 = .ok (.ireturn, 1) := by decide +kernel
theorem dX5_floor_78 : decode cX5_floor 78 = .ok (.aload_n 0, 1) := by decide +kernel
theorem dX5_floor_79 : decode cX5_floor 79 = .ok (.iload_n 1, 1) := by decide +kernel
theorem dX5_floor_80 : decode cX5_floor 80 = .ok (.iconst 1, 1) := by decide +kernel
theorem dX5_floor_81 : decode cX5_floor 81 = .ok (.invokevirtual 44, 3) := by decide +kernel
theorem dX5_floor_84 : decode cX5_floor 84 = .ok (.ireturn, 1) := by decide +kernel
theorem dX5_floor_85 : decode cX5_floor 85 = .ok (.aload_n 0, 1) := by decide +kernel
theorem dX5_floor_86 : decode cX5_floor 86 = .ok (.iload_n 1, 1) := by decide +kernel
theorem dX5_floor_87 : decode cX5_floor 87 = .ok (.invokevirtual 68, 3) := by decide +kernel
theorem dX5_floor_90 : decode cX5_floor 90 = .ok (.ireturn, 1) := by decide +kernel
theorem dX5_floor_91 : decode cX5_floor 91 = .ok (.aload_n 0, 1) := by decide +kernel
theorem dX5_floor_92 : decode cX5_floor 92 = .ok (.iload_n 1, 1) := by decide +kernel
theorem dX5_floor_93 : decode cX5_floor 93 = .ok (.iconst 2, 1) := by decide +kernel
theorem dX5_floor_94 : decode cX5_floor 94 = .ok (.invokevirtual 44, 3) := by decide +kernel
theorem dX5_floor_97 : decode cX5_floor 97 = .ok (.sipush 1000, 3) := by decide +kernel
theorem dX5_floor_100 : decode cX5_floor 100 = .ok (.iadd, 1) := by decide +kernel
theorem dX5_floor_101 : decode cX5_floor 101 = .ok (.ireturn, 1) := by decide +kernel
theorem dX5_floor_102 : decode cX5_floor 102 = .ok (.aload_n 0, 1) := by decide +kernel
theorem dX5_floor_103 : decode cX5_floor 103 = .ok (.iload_n 1, 1) := by decide +kernel
theorem dX5_floor_104 : decode cX5_floor 104 = .ok (.iconst 3, 1) := by decide +kernel
theorem dX5_floor_105 : decode cX5_floor 105 = .ok (.invokevirtual 44, 3) := by decide +kernel
theorem dX5_floor_108 : decode cX5_floor 108 = .ok (.ireturn, 1) := by decide +kernel
theorem dX5_floor_109 : decode cX5_floor 109 = .ok (.aload_n 0, 1) := by decide +kernel
theorem dX5_floor_110 : decode cX5_floor 110 = .ok (.iload_n 1, 1) := by decide +kernel
theorem dX5_floor_111 : decode cX5_floor 111 = .ok (.invokevirtual 79, 3) := by decide +kernel
theorem dX5_floor_114 : decode cX5_floor 114 = .ok (.sipush 1000, 3) := by decide +kernel
theorem dX5_floor_117 : decode cX5_floor 117 = .ok (.iadd, 1) := by decide +kernel
theorem dX5_floor_118 : decode cX5_floor 118 = .ok (.ireturn, 1) := by decide +kernel
theorem dX5_floor_119 : decode cX5_floor 119 = .ok (.aload_n 0, 1) := by decide +kernel
theorem dX5_floor_120 : decode cX5_floor 120 = .ok (.iload_n 1, 1) := by decide +kernel
theorem dX5_floor_121 : decode cX5_floor 121 = .ok (.invokevirtual 59, 3) := by decide +kernel
theorem dX5_floor_124 : decode cX5_floor 124 = .ok (.ireturn, 1) := by decide +kernel
theorem dX5_floor_125 : decode cX5_floor 125 = .ok (.aload_n 0, 1) := by decide +kernel
theorem dX5_floor_126 : decode cX5_floor 126 = .ok (.iload_n 1, 1) := by decide +kernel
theorem dX5_floor_127 : decode cX5_floor 127 = .ok (.invokevirtual 62, 3) := by decide +kernel
theorem dX5_floor_130 : decode cX5_floor 130 = .ok (.ireturn, 1) := by decide +kernel
theorem dX5_floor_131 : decode cX5_floor 131 = .ok (.aload_n 0, 1) := by decide +kernel
theorem dX5_floor_132 : decode cX5_floor 132 = .ok (.iload_n 1, 1) := by decide +kernel
theorem dX5_floor_133 : decode cX5_floor 133 = .ok (.invokevirtual 65, 3) := by decide +kernel
theorem dX5_floor_136 : decode cX5_floor 136 = .ok (.ifCond .eq 7, 3) := by decide +kernel
theorem dX5_floor_139 : decode cX5_floor 139 = .ok (.iconst 1, 1) := by decide +kernel
theorem dX5_floor_140 : decode cX5_floor 140 = .ok (.goto 4, 3) := by decide +kernel
theorem dX5_floor_143 : decode cX5_floor 143 = .ok (.iconst 0, 1) := by decide +kernel
theorem dX5_floor_144 : decode cX5_floor 144 = .ok (.ireturn, 1) := by decide +kernel
theorem dX5_floor_145 : decode cX5_floor 145 = .ok (.aload_n 0, 1) := by decide +kernel
theorem dX5_floor_146 : decode cX5_floor 146 = .ok (.iload_n 1, 1) := by decide +kernel
theorem dX5_floor_147 : decode cX5_floor 147 = .ok (.invokevirtual 119, 3) := by decide +kernel
theorem dX5_floor_150 : decode cX5_floor 150 = .ok (.ireturn, 1) := by decide +kernel
theorem dX5_floor_151 : decode cX5_floor 151 = .ok (.aload_n 0, 1) := by decide +kernel
theorem dX5_floor_152 : decode cX5_floor 152 = .ok (.iload_n 1, 1) := by decide +kernel
theorem dX5_floor_153 : decode cX5_floor 153 = .ok (.invokevirtual 122, 3) := by decide +kernel
theorem dX5_floor_156 : decode cX5_floor 156 = .ok (.ireturn, 1) := by decide +kernel
theorem dX5_floor_157 : decode cX5_floor 157 = .ok (.ldc 117, 2) := by decide +kernel
theorem dX5_floor_159 : decode cX5_floor 159 = .ok (.ireturn, 1) := by decide +kernel
set_option maxRecDepth 20000 in
theorem ggX5_hundredths_X5_in : GoodIn wsX5_hundredths wsX5_in := goodIn_r _ [5] (by decide +kernel) (by decide +kernel)
set_option maxRecDepth 20000 in
theorem gX5_hundredths_X5_in : GoodIn wsX5_hundredths (va_wsS RX5 36 yX5_in wsX5_in) := goodIn_app (goodIn_of _ (by decide +kernel)) ggX5_hundredths_X5_in
set_option maxRecDepth 20000 in
theorem ggX5_hundredths_X5_hundredthsBy : GoodIn wsX5_hundredths wsX5_hundredthsBy := goodIn_r _ [8] (by decide +kernel) (by decide +kernel)
set_option maxRecDepth 20000 in
theorem gX5_hundredths_X5_hundredthsBy : GoodIn wsX5_hundredths (va_wsS RX5 52 yX5_hundredthsBy wsX5_hundredthsBy) := goodIn_app (goodIn_of _ (by decide +kernel)) ggX5_hundredths_X5_hundredthsBy
theorem dX5_hundredths_0 : decode cX5_hundredths 0 = .ok (.iload_n 1, 1) := by decide +kernel
theorem dX5_hundredths_1 : decode cX5_hundredths 1 = .ok (.iconst 0, 1) := by decide +kernel
theorem dX5_hundredths_2 : decode cX5_hundredths 2 = .ok (.iconst 2, 1) := by decide +kernel
theorem dX5_hundredths_3 : decode cX5_hundredths 3 = .ok (.invokestatic 36, 3) := by decide +kernel
theorem dX5_hundredths_6 : decode cX5_hundredths 6 = .ok (.ifCond .eq 22, 3) := by decide +kernel
theorem dX5_hundredths_9 : decode cX5_hundredths 9 = .ok (.iload_n 2, 1) := by decide +kernel
theorem dX5_hundredths_10 : decode cX5_hundredths 10 = .ok (.iconst 0, 1) := by decide +kernel
theorem dX5_hundredths_11 : decode cX5_hundredths 11 = .ok (.sipush 999, 3) := by decide +kernel
theorem dX5_hundredths_14 : decode cX5_hundredths 14 = .ok (.invokestatic 36, 3) := by decide +kernel
theorem dX5_hundredths_17 : decode cX5_hundredths 17 = .ok (.ifCond .eq 11, 3) := by decide +kernel
theorem dX5_hundredths_20 : decode cX5_hundredths 20 = .ok (.iload_n 1, 1) := by decide +kernel
theorem dX5_hundredths_21 : decode cX5_hundredths 21 = .ok (.iload_n 2, 1) := by decide +kernel
theorem dX5_hundredths_22 : decode cX5_hundredths 22 = .ok (.invokestatic 52, 3) := by decide +kernel
theorem dX5_hundredths_25 : decode cX5_hundredths 25 = .ok (.goto 5, 3) := by decide +kernel
theorem dX5_hundredths_28 : decode cX5_hundredths 28 = .ok (.ldc 117, 2) := by decide +kernel
theorem dX5_hundredths_30 : decode cX5_hundredths 30 = .ok (.ireturn, 1) := by decide +kernel
set_option maxRecDepth 20000 in
theorem ggX5_would_X5_isFloor : GoodIn wsX5_would wsX5_isFloor := goodIn_r _ [6, 7, 8, 9, 5, 10, 68, 69, 70, 71, 72, 73, 74, 75, 76, 77, 78] (by decide +kernel) (by decide +kernel)
set_option maxRecDepth 20000 in
theorem gX5_would_X5_isFloor : GoodIn wsX5_would (wsV RX5 82 RX5 yX5_isFloor wsX5_isFloor) := goodIn_app (goodIn_of _ (by decide +kernel)) ggX5_would_X5_isFloor
set_option maxRecDepth 20000 in
theorem ggX5_would_X5_isPropped : GoodIn wsX5_would wsX5_isPropped := goodIn_r _ [14, 15, 16, 17, 5, 18, 7, 68, 69, 70, 71, 72, 73, 74, 75, 76, 77, 78] (by decide +kernel) (by decide +kernel)
set_option maxRecDepth 20000 in
theorem gX5_would_X5_isPropped : GoodIn wsX5_would (wsV RX5 55 RX5 yX5_isPropped wsX5_isPropped) := goodIn_app (goodIn_of _ (by decide +kernel)) ggX5_would_X5_isPropped
set_option maxRecDepth 20000 in
theorem ggX5_would_X5_lays : GoodIn wsX5_would wsX5_lays := goodIn_r _ [22, 23, 7, 68, 69, 70, 71, 72, 73, 74, 75, 76, 77, 78] (by decide +kernel) (by decide +kernel)
set_option maxRecDepth 20000 in
theorem gX5_would_X5_lays : GoodIn wsX5_would (wsV RX5 85 RX5 yX5_lays wsX5_lays) := goodIn_app (goodIn_of _ (by decide +kernel)) ggX5_would_X5_lays
set_option maxRecDepth 20000 in
theorem ggX5_would_X5_strikes : GoodIn wsX5_would wsX5_strikes := goodIn_r _ [27, 28, 29, 30, 5, 31, 7, 32, 33, 34, 35, 11, 12, 13, 14, 15, 16, 17, 18, 36, 37, 38, 39, 40, 41, 42, 43, 44, 45, 46, 47, 48, 49, 50, 51, 52, 53, 54, 55, 56, 57, 58, 59, 60, 61, 62, 63, 68, 69, 70, 71, 72, 73, 74, 75, 76, 77, 78] (by decide +kernel) (by decide +kernel)
set_option maxRecDepth 20000 in
theorem gX5_would_X5_strikes : GoodIn wsX5_would (wsV RX5 88 RX5 yX5_strikes wsX5_strikes) := goodIn_app (goodIn_of _ (by decide +kernel)) ggX5_would_X5_strikes
set_option maxRecDepth 20000 in
theorem ggX5_would_X5_of : GoodIn wsX5_would wsX5_of := goodIn_r _ [18, 7, 68, 69, 70, 71, 72, 73, 74, 75, 76, 77, 78] (by decide +kernel) (by decide +kernel)
set_option maxRecDepth 20000 in
theorem gX5_would_X5_of : GoodIn wsX5_would (wsV RX5 44 RX5 yX5_of wsX5_of) := goodIn_app (goodIn_of _ (by decide +kernel)) ggX5_would_X5_of
set_option maxRecDepth 20000 in
theorem ggX5_would_X5_takesBack : GoodIn wsX5_would wsX5_takesBack := goodIn_r _ [67, 7, 23, 68, 69, 70, 71, 72, 73, 74, 75, 76, 77, 78] (by decide +kernel) (by decide +kernel)
set_option maxRecDepth 20000 in
theorem gX5_would_X5_takesBack : GoodIn wsX5_would (wsV RX5 96 RX5 yX5_takesBack wsX5_takesBack) := goodIn_app (goodIn_of _ (by decide +kernel)) ggX5_would_X5_takesBack
theorem dX5_would_0 : decode cX5_would 0 = .ok (.aload_n 0, 1) := by decide +kernel
theorem dX5_would_1 : decode cX5_would 1 = .ok (.iload_n 1, 1) := by decide +kernel
theorem dX5_would_2 : decode cX5_would 2 = .ok (.invokevirtual 82, 3) := by decide +kernel
theorem dX5_would_5 : decode cX5_would 5 = .ok (.ifCond .eq 19, 3) := by decide +kernel
theorem dX5_would_8 : decode cX5_would 8 = .ok (.aload_n 0, 1) := by decide +kernel
theorem dX5_would_9 : decode cX5_would 9 = .ok (.iload_n 2, 1) := by decide +kernel
theorem dX5_would_10 : decode cX5_would 10 = .ok (.invokevirtual 82, 3) := by decide +kernel
theorem dX5_would_13 : decode cX5_would 13 = .ok (.ifCond .eq 11, 3) := by decide +kernel
theorem dX5_would_16 : decode cX5_would 16 = .ok (.aload_n 0, 1) := by decide +kernel
theorem dX5_would_17 : decode cX5_would 17 = .ok (.iload_n 1, 1) := by decide +kernel
theorem dX5_would_18 : decode cX5_would 18 = .ok (.invokevirtual 55, 3) := by decide +kernel
theorem dX5_would_21 : decode cX5_would 21 = .ok (.ifCond .ne 6, 3) := by decide +kernel
theorem dX5_would_24 : decode cX5_would 24 = .ok (.ldc 118, 2) := by decide +kernel
theorem dX5_would_26 : decode cX5_would 26 = .ok (.ireturn, 1) := by decide +kernel
theorem dX5_would_27 : decode cX5_would 27 = .ok (.aload_n 0, 1) := by decide +kernel
theorem dX5_would_28 : decode cX5_would 28 = .ok (.invokevirtual 85, 3) := by decide +kernel
theorem dX5_would_31 : decode cX5_would 31 = .ok (.aload_n 0, 1) := by decide +kernel
theorem dX5_would_32 : decode cX5_would 32 = .ok (.iload_n 1, 1) := by decide +kernel
theorem dX5_would_33 : decode cX5_would 33 = .ok (.invokevirtual 88, 3) := by decide +kernel
theorem dX5_would_36 : decode cX5_would 36 = .ok (.aload_n 0, 1) := by decide +kernel
theorem dX5_would_37 : decode cX5_would 37 = .ok (.iload_n 2, 1) := by decide +kernel
theorem dX5_would_38 : decode cX5_would 38 = .ok (.iconst 2, 1) := by decide +kernel
theorem dX5_would_39 : decode cX5_would 39 = .ok (.invokevirtual 44, 3) := by decide +kernel
theorem dX5_would_42 : decode cX5_would 42 = .ok (.sipush 1000, 3) := by decide +kernel
theorem dX5_would_45 : decode cX5_would 45 = .ok (.iadd, 1) := by decide +kernel
theorem dX5_would_46 : decode cX5_would 46 = .ok (.istore_n 3, 1) := by decide +kernel
theorem dX5_would_47 : decode cX5_would 47 = .ok (.aload_n 0, 1) := by decide +kernel
theorem dX5_would_48 : decode cX5_would 48 = .ok (.invokevirtual 96, 3) := by decide +kernel
theorem dX5_would_51 : decode cX5_would 51 = .ok (.iload_n 3, 1) := by decide +kernel
theorem dX5_would_52 : decode cX5_would 52 = .ok (.ireturn, 1) := by decide +kernel
set_option maxRecDepth 20000 in
theorem ggX5_holds_X5_isPropped : GoodIn wsX5_holds wsX5_isPropped := goodIn_r _ [6, 7, 8, 9, 5, 10, 1, 59, 60, 61, 62, 63, 64, 65, 66, 67, 68, 69] (by decide +kernel) (by decide +kernel)
set_option maxRecDepth 20000 in
theorem gX5_holds_X5_isPropped : GoodIn wsX5_holds (wsV RX5 55 RX5 yX5_isPropped wsX5_isPropped) := goodIn_app (goodIn_of _ (by decide +kernel)) ggX5_holds_X5_isPropped
set_option maxRecDepth 20000 in
theorem ggX5_holds_X5_strikes : GoodIn wsX5_holds wsX5_strikes := goodIn_r _ [14, 15, 16, 17, 5, 18, 1, 19, 20, 21, 22, 2, 3, 4, 6, 7, 8, 9, 10, 23, 24, 25, 26, 27, 28, 29, 30, 31, 32, 33, 34, 35, 36, 37, 38, 39, 40, 41, 42, 43, 44, 45, 46, 47, 48, 49, 50, 59, 60, 61, 62, 63, 64, 65, 66, 67, 68, 69] (by decide +kernel) (by decide +kernel)
set_option maxRecDepth 20000 in
theorem gX5_holds_X5_strikes : GoodIn wsX5_holds (wsV RX5 88 RX5 yX5_strikes wsX5_strikes) := goodIn_app (goodIn_of _ (by decide +kernel)) ggX5_holds_X5_strikes
set_option maxRecDepth 20000 in
theorem ggX5_holds_X5_weak : GoodIn wsX5_holds wsX5_weak := goodIn_r _ [54, 1, 7, 8, 9, 5, 10, 44, 45, 46, 47, 40, 41, 42, 43, 48, 49, 50, 59, 60, 61, 62, 63, 64, 65, 66, 67, 68, 69] (by decide +kernel) (by decide +kernel)
set_option maxRecDepth 20000 in
theorem gX5_holds_X5_weak : GoodIn wsX5_holds (wsV RX5 92 RX5 yX5_weak wsX5_weak) := goodIn_app (goodIn_of _ (by decide +kernel)) ggX5_holds_X5_weak
set_option maxRecDepth 20000 in
theorem ggX5_holds_X5_pours : GoodIn wsX5_holds wsX5_pours := goodIn_r _ [58, 1, 23, 24, 25, 5, 26, 27, 28, 29, 30, 31, 32, 33, 34, 35, 36, 37, 38, 39, 2, 3, 4, 6, 7, 8, 9, 10, 19, 20, 21, 22, 40, 41, 42, 43, 44, 45, 46, 47, 48, 49, 50, 59, 60, 61, 62, 63, 64, 65, 66, 67, 68, 69] (by decide +kernel) (by decide +kernel)
set_option maxRecDepth 20000 in
theorem gX5_holds_X5_pours : GoodIn wsX5_holds (wsV RX5 99 RX5 yX5_pours wsX5_pours) := goodIn_app (goodIn_of _ (by decide +kernel)) ggX5_holds_X5_pours
theorem dX5_holds_0 : decode cX5_holds 0 = .ok (.aload_n 0, 1) := by decide +kernel
theorem dX5_holds_1 : decode cX5_holds 1 = .ok (.getfield 7, 3) := by decide +kernel
theorem dX5_holds_4 : decode cX5_holds 4 = .ok (.iconst 0, 1) := by decide +kernel
theorem dX5_holds_5 : decode cX5_holds 5 = .ok (.iconst 0, 1) := by decide +kernel
theorem dX5_holds_6 : decode cX5_holds 6 = .ok (.iastore, 1) := by decide +kernel
theorem dX5_holds_7 : decode cX5_holds 7 = .ok (.aload_n 0, 1) := by decide +kernel
theorem dX5_holds_8 : decode cX5_holds 8 = .ok (.getfield 7, 3) := by decide +kernel
theorem dX5_holds_11 : decode cX5_holds 11 = .ok (.iconst 1, 1) := by decide +kernel
theorem dX5_holds_12 : decode cX5_holds 12 = .ok (.iconst 0, 1) := by decide +kernel
theorem dX5_holds_13 : decode cX5_holds 13 = .ok (.iastore, 1) := by decide +kernel
theorem dX5_holds_14 : decode cX5_holds 14 = .ok (.iconst 1, 1) := by decide +kernel
theorem dX5_holds_15 : decode cX5_holds 15 = .ok (.istore_n 3, 1) := by decide +kernel
theorem dX5_holds_16 : decode cX5_holds 16 = .ok (.iconst 0, 1) := by decide +kernel
theorem dX5_holds_17 : decode cX5_holds 17 = .ok (.istore 4, 2) := by decide +kernel
theorem dX5_holds_19 : decode cX5_holds 19 = .ok (.iload 4, 2) := by decide +kernel
theorem dX5_holds_21 : decode cX5_holds 21 = .ok (.bipush 8, 2) := by decide +kernel
theorem dX5_holds_23 : decode cX5_holds 23 = .ok (.if_icmp .ge 133, 3) := by decide +kernel
theorem dX5_holds_26 : decode cX5_holds 26 = .ok (.iload_n 3, 1) := by decide +kernel
theorem dX5_holds_27 : decode cX5_holds 27 = .ok (.ifCond .eq 129, 3) := by decide +kernel
theorem dX5_holds_30 : decode cX5_holds 30 = .ok (.aload_n 0, 1) := by decide +kernel
theorem dX5_holds_31 : decode cX5_holds 31 = .ok (.getfield 7, 3) := by decide +kernel
theorem dX5_holds_34 : decode cX5_holds 34 = .ok (.iconst 0, 1) := by decide +kernel
theorem dX5_holds_35 : decode cX5_holds 35 = .ok (.iload_n 2, 1) := by decide +kernel
theorem dX5_holds_36 : decode cX5_holds 36 = .ok (.iload 4, 2) := by decide +kernel
theorem dX5_holds_38 : decode cX5_holds 38 = .ok (.imul, 1) := by decide +kernel
theorem dX5_holds_39 : decode cX5_holds 39 = .ok (.iastore, 1) := by decide +kernel
theorem dX5_holds_40 : decode cX5_holds 40 = .ok (.iconst 0, 1) := by decide +kernel
theorem dX5_holds_41 : decode cX5_holds 41 = .ok (.istore 5, 2) := by decide +kernel
theorem dX5_holds_43 : decode cX5_holds 43 = .ok (.iconst (-1), 1) := by decide +kernel
theorem dX5_holds_44 : decode cX5_holds 44 = .ok (.istore 6, 2) := by decide +kernel
theorem dX5_holds_46 : decode cX5_holds 46 = .ok (.aload_n 0, 1) := by decide +kernel
theorem dX5_holds_47 : decode cX5_holds 47 = .ok (.getfield 7, 3) := by decide +kernel
theorem dX5_holds_50 : decode cX5_holds 50 = .ok (.iconst 1, 1) := by decide +kernel
theorem dX5_holds_51 : decode cX5_holds 51 = .ok (.iaload, 1) := by decide +kernel
theorem dX5_holds_52 : decode cX5_holds 52 = .ok (.iconst 1, 1) := by decide +kernel
theorem dX5_holds_53 : decode cX5_holds 53 = .ok (.isub, 1) := by decide +kernel
theorem dX5_holds_54 : decode cX5_holds 54 = .ok (.istore 7, 2) := by decide +kernel
theorem dX5_holds_56 : decode cX5_holds 56 = .ok (.iload 7, 2) := by decide +kernel
theorem dX5_holds_58 : decode cX5_holds 58 = .ok (.ifCond .lt 46, 3) := by decide +kernel
theorem dX5_holds_61 : decode cX5_holds 61 = .ok (.iload 5, 2) := by decide +kernel
theorem dX5_holds_63 : decode cX5_holds 63 = .ok (.aload_n 0, 1) := by decide +kernel
theorem dX5_holds_64 : decode cX5_holds 64 = .ok (.iload 7, 2) := by decide +kernel
theorem dX5_holds_66 : decode cX5_holds 66 = .ok (.invokevirtual 55, 3) := by decide +kernel
theorem dX5_holds_69 : decode cX5_holds 69 = .ok (.ifCond .eq 7, 3) := by decide +kernel
theorem dX5_holds_72 : decode cX5_holds 72 = .ok (.iconst 1, 1) := by decide +kernel
theorem dX5_holds_73 : decode cX5_holds 73 = .ok (.goto 4, 3) := by decide +kernel
theorem dX5_holds_76 : decode cX5_holds 76 = .ok (.iconst 0, 1) := by decide +kernel
theorem dX5_holds_77 : decode cX5_holds 77 = .ok (.iadd, 1) := by decide +kernel
theorem dX5_holds_78 : decode cX5_holds 78 = .ok (.istore 5, 2) := by decide +kernel
theorem dX5_holds_80 : decode cX5_holds 80 = .ok (.aload_n 0, 1) := by decide +kernel
theorem dX5_holds_81 : decode cX5_holds 81 = .ok (.iload 7, 2) := by decide +kernel
theorem dX5_holds_83 : decode cX5_holds 83 = .ok (.invokevirtual 55, 3) := by decide +kernel
theorem dX5_holds_86 : decode cX5_holds 86 = .ok (.ifCond .eq 8, 3) := by decide +kernel
theorem dX5_holds_89 : decode cX5_holds 89 = .ok (.iload 7, 2) := by decide +kernel
theorem dX5_holds_91 : decode cX5_holds 91 = .ok (.goto 5, 3) := by decide +kernel
theorem dX5_holds_94 : decode cX5_holds 94 = .ok (.iload 6, 2) := by decide +kernel
theorem dX5_holds_96 : decode cX5_holds 96 = .ok (.istore 6, 2) := by decide +kernel
theorem dX5_holds_98 : decode cX5_holds 98 = .ok (.iinc 7 (-1), 3) := by decide +kernel
theorem dX5_holds_101 : decode cX5_holds 101 = .ok (.goto (-45), 3) := by decide +kernel
theorem dX5_holds_104 : decode cX5_holds 104 = .ok (.iload 5, 2) := by decide +kernel
theorem dX5_holds_106 : decode cX5_holds 106 = .ok (.iload_n 1, 1) := by decide +kernel
theorem dX5_holds_107 : decode cX5_holds 107 = .ok (.if_icmp .ne 22, 3) := by decide +kernel
theorem dX5_holds_110 : decode cX5_holds 110 = .ok (.aload_n 0, 1) := by decide +kernel
theorem dX5_holds_111 : decode cX5_holds 111 = .ok (.iload 6, 2) := by decide +kernel
theorem dX5_holds_113 : decode cX5_holds 113 = .ok (.invokevirtual 88, 3) := by decide +kernel
theorem dX5_holds_116 : decode cX5_holds 116 = .ok (.aload_n 0, 1) := by decide +kernel
theorem dX5_holds_117 : decode cX5_holds 117 = .ok (.invokevirtual 92, 3) := by decide +kernel
theorem dX5_holds_120 : decode cX5_holds 120 = .ok (.ifCond .ne 7, 3) := by decide +kernel
theorem dX5_holds_123 : decode cX5_holds 123 = .ok (.iconst 1, 1) := by decide +kernel
theorem dX5_holds_124 : decode cX5_holds 124 = .ok (.goto 4, 3) := by decide +kernel
theorem dX5_holds_127 : decode cX5_holds 127 = .ok (.iconst 0, 1) := by decide +kernel
theorem dX5_holds_128 : decode cX5_holds 128 = .ok (.istore_n 3, 1) := by decide +kernel
theorem dX5_holds_129 : decode cX5_holds 129 = .ok (.iload_n 3, 1) := by decide +kernel
theorem dX5_holds_130 : decode cX5_holds 130 = .ok (.ifCond .eq 20, 3) := by decide +kernel
theorem dX5_holds_133 : decode cX5_holds 133 = .ok (.aload_n 0, 1) := by decide +kernel
theorem dX5_holds_134 : decode cX5_holds 134 = .ok (.invokevirtual 99, 3) := by decide +kernel
theorem dX5_holds_137 : decode cX5_holds 137 = .ok (.aload_n 0, 1) := by decide +kernel
theorem dX5_holds_138 : decode cX5_holds 138 = .ok (.invokevirtual 92, 3) := by decide +kernel
theorem dX5_holds_141 : decode cX5_holds 141 = .ok (.ifCond .ne 7, 3) := by decide +kernel
theorem dX5_holds_144 : decode cX5_holds 144 = .ok (.iconst 1, 1) := by decide +kernel
theorem dX5_holds_145 : decode cX5_holds 145 = .ok (.goto 4, 3) := by decide +kernel
theorem dX5_holds_148 : decode cX5_holds 148 = .ok (.iconst 0, 1) := by decide +kernel
theorem dX5_holds_149 : decode cX5_holds 149 = .ok (.istore_n 3, 1) := by decide +kernel
theorem dX5_holds_150 : decode cX5_holds 150 = .ok (.iinc 4 1, 3) := by decide +kernel
theorem dX5_holds_153 : decode cX5_holds 153 = .ok (.goto (-134), 3) := by decide +kernel
theorem dX5_holds_156 : decode cX5_holds 156 = .ok (.iload_n 3, 1) := by decide +kernel
theorem dX5_holds_157 : decode cX5_holds 157 = .ok (.ireturn, 1) := by decide +kernel
set_option maxRecDepth 20000 in
theorem ggX5_cycle_X5_in : GoodIn wsX5_cycle wsX5_in := goodIn_r _ [5] (by decide +kernel) (by decide +kernel)
set_option maxRecDepth 20000 in
theorem gX5_cycle_X5_in : GoodIn wsX5_cycle (va_wsS RX5 36 yX5_in wsX5_in) := goodIn_app (goodIn_of _ (by decide +kernel)) ggX5_cycle_X5_in
set_option maxRecDepth 20000 in
theorem ggX5_cycle_X5_lays : GoodIn wsX5_cycle wsX5_lays := goodIn_r _ [9, 10, 11, 76, 77, 78, 79, 80, 81, 82, 83, 84, 85, 86] (by decide +kernel) (by decide +kernel)
set_option maxRecDepth 20000 in
theorem gX5_cycle_X5_lays : GoodIn wsX5_cycle (wsV RX5 85 RX5 yX5_lays wsX5_lays) := goodIn_app (goodIn_of _ (by decide +kernel)) ggX5_cycle_X5_lays
set_option maxRecDepth 20000 in
theorem ggX5_cycle_X5_holds : GoodIn wsX5_cycle wsX5_holds := goodIn_r _ [15, 11, 16, 17, 18, 4, 19, 20, 21, 22, 23, 24, 25, 26, 27, 28, 29, 30, 31, 32, 33, 34, 35, 36, 37, 38, 39, 40, 41, 42, 43, 44, 45, 46, 47, 48, 49, 50, 51, 52, 53, 54, 55, 56, 57, 58, 59, 60, 61, 62, 63, 64, 65, 66, 67, 68, 69, 70, 71, 76, 77, 78, 79, 80, 81, 82, 83, 84, 85, 86] (by decide +kernel) (by decide +kernel)
set_option maxRecDepth 20000 in
theorem gX5_cycle_X5_holds : GoodIn wsX5_cycle (wsV RX5 125 RX5 yX5_holds wsX5_holds) := goodIn_app (goodIn_of _ (by decide +kernel)) ggX5_cycle_X5_holds
set_option maxRecDepth 20000 in
theorem ggX5_cycle_X5_takesBack : GoodIn wsX5_cycle wsX5_takesBack := goodIn_r _ [75, 11, 10, 76, 77, 78, 79, 80, 81, 82, 83, 84, 85, 86] (by decide +kernel) (by decide +kernel)
set_option maxRecDepth 20000 in
theorem gX5_cycle_X5_takesBack : GoodIn wsX5_cycle (wsV RX5 96 RX5 yX5_takesBack wsX5_takesBack) := goodIn_app (goodIn_of _ (by decide +kernel)) ggX5_cycle_X5_takesBack
theorem dX5_cycle_0 : decode cX5_cycle 0 = .ok (.iload_n 1, 1) := by decide +kernel
theorem dX5_cycle_1 : decode cX5_cycle 1 = .ok (.iconst 1, 1) := by decide +kernel
theorem dX5_cycle_2 : decode cX5_cycle 2 = .ok (.iconst 3, 1) := by decide +kernel
theorem dX5_cycle_3 : decode cX5_cycle 3 = .ok (.invokestatic 36, 3) := by decide +kernel
theorem dX5_cycle_6 : decode cX5_cycle 6 = .ok (.ifCond .ne 6, 3) := by decide +kernel
theorem dX5_cycle_9 : decode cX5_cycle 9 = .ok (.ldc 117, 2) := by decide +kernel
theorem dX5_cycle_11 : decode cX5_cycle 11 = .ok (.ireturn, 1) := by decide +kernel
theorem dX5_cycle_12 : decode cX5_cycle 12 = .ok (.iconst (-1), 1) := by decide +kernel
theorem dX5_cycle_13 : decode cX5_cycle 13 = .ok (.istore_n 2, 1) := by decide +kernel
theorem dX5_cycle_14 : decode cX5_cycle 14 = .ok (.aload_n 0, 1) := by decide +kernel
theorem dX5_cycle_15 : decode cX5_cycle 15 = .ok (.invokevirtual 85, 3) := by decide +kernel
theorem dX5_cycle_18 : decode cX5_cycle 18 = .ok (.iconst 1, 1) := by decide +kernel
theorem dX5_cycle_19 : decode cX5_cycle 19 = .ok (.istore_n 3, 1) := by decide +kernel
theorem dX5_cycle_20 : decode cX5_cycle 20 = .ok (.iload_n 3, 1) := by decide +kernel
theorem dX5_cycle_21 : decode cX5_cycle 21 = .ok (.bipush 29, 2) := by decide +kernel
theorem dX5_cycle_23 : decode cX5_cycle 23 = .ok (.if_icmp .ge 29, 3) := by decide +kernel
theorem dX5_cycle_26 : decode cX5_cycle 26 = .ok (.iload_n 2, 1) := by decide +kernel
theorem dX5_cycle_27 : decode cX5_cycle 27 = .ok (.iconst (-1), 1) := by decide +kernel
theorem dX5_cycle_28 : decode cX5_cycle 28 = .ok (.if_icmp .ne 24, 3) := by decide +kernel
theorem dX5_cycle_31 : decode cX5_cycle 31 = .ok (.aload_n 0, 1) := by decide +kernel
theorem dX5_cycle_32 : decode cX5_cycle 32 = .ok (.iload_n 1, 1) := by decide +kernel
theorem dX5_cycle_33 : decode cX5_cycle 33 = .ok (.iload_n 3, 1) := by decide +kernel
theorem dX5_cycle_34 : decode cX5_cycle 34 = .ok (.invokevirtual 125, 3) := by decide +kernel
theorem dX5_cycle_37 : decode cX5_cycle 37 = .ok (.ifCond .eq 7, 3) := by decide +kernel
theorem dX5_cycle_40 : decode cX5_cycle 40 = .ok (.iload_n 3, 1) := by decide +kernel
theorem dX5_cycle_41 : decode cX5_cycle 41 = .ok (.goto 4, 3) := by decide +kernel
theorem dX5_cycle_44 : decode cX5_cycle 44 = .ok (.iconst (-1), 1) := by decide +kernel
theorem dX5_cycle_45 : decode cX5_cycle 45 = .ok (.istore_n 2, 1) := by decide +kernel
theorem dX5_cycle_46 : decode cX5_cycle 46 = .ok (.iinc 3 1, 3) := by decide +kernel
theorem dX5_cycle_49 : decode cX5_cycle 49 = .ok (.goto (-29), 3) := by decide +kernel
theorem dX5_cycle_52 : decode cX5_cycle 52 = .ok (.aload_n 0, 1) := by decide +kernel
theorem dX5_cycle_53 : decode cX5_cycle 53 = .ok (.invokevirtual 96, 3) := by decide +kernel
theorem dX5_cycle_56 : decode cX5_cycle 56 = .ok (.iload_n 2, 1) := by decide +kernel
theorem dX5_cycle_57 : decode cX5_cycle 57 = .ok (.ireturn, 1) := by decide +kernel
set_option maxRecDepth 20000 in
theorem ggX5_days_X5_in : GoodIn wsX5_days wsX5_in := goodIn_r _ [6] (by decide +kernel) (by decide +kernel)
set_option maxRecDepth 20000 in
theorem gX5_days_X5_in : GoodIn wsX5_days (va_wsS RX5 36 yX5_in wsX5_in) := goodIn_app (goodIn_of _ (by decide +kernel)) ggX5_days_X5_in
set_option maxRecDepth 20000 in
theorem ggX5_days_X5_notes : GoodIn wsX5_days wsX5_notes := goodIn_r _ [10, 11, 12, 2, 13, 14, 15, 16, 17, 18, 19, 20, 21, 22, 23] (by decide +kernel) (by decide +kernel)
set_option maxRecDepth 20000 in
theorem gX5_days_X5_notes : GoodIn wsX5_days (wsV RX5 129 RX5 yX5_notes wsX5_notes) := goodIn_app (goodIn_of _ (by decide +kernel)) ggX5_days_X5_notes
theorem dX5_days_0 : decode cX5_days 0 = .ok (.iload_n 1, 1) := by decide +kernel
theorem dX5_days_1 : decode cX5_days 1 = .ok (.iconst 1, 1) := by decide +kernel
theorem dX5_days_2 : decode cX5_days 2 = .ok (.bipush 60, 2) := by decide +kernel
theorem dX5_days_4 : decode cX5_days 4 = .ok (.invokestatic 36, 3) := by decide +kernel
theorem dX5_days_7 : decode cX5_days 7 = .ok (.ifCond .ne 6, 3) := by decide +kernel
theorem dX5_days_10 : decode cX5_days 10 = .ok (.ldc 117, 2) := by decide +kernel
theorem dX5_days_12 : decode cX5_days 12 = .ok (.ireturn, 1) := by decide +kernel
theorem dX5_days_13 : decode cX5_days 13 = .ok (.aload_n 0, 1) := by decide +kernel
theorem dX5_days_14 : decode cX5_days 14 = .ok (.invokevirtual 129, 3) := by decide +kernel
theorem dX5_days_17 : decode cX5_days 17 = .ok (.aload_n 0, 1) := by decide +kernel
theorem dX5_days_18 : decode cX5_days 18 = .ok (.getfield 7, 3) := by decide +kernel
theorem dX5_days_21 : decode cX5_days 21 = .ok (.iconst 0, 1) := by decide +kernel
theorem dX5_days_22 : decode cX5_days 22 = .ok (.dup2, 1) := by decide +kernel
theorem dX5_days_23 : decode cX5_days 23 = .ok (.iaload, 1) := by decide +kernel
theorem dX5_days_24 : decode cX5_days 24 = .ok (.iload_n 1, 1) := by decide +kernel
theorem dX5_days_25 : decode cX5_days 25 = .ok (.iadd, 1) := by decide +kernel
theorem dX5_days_26 : decode cX5_days 26 = .ok (.iastore, 1) := by decide +kernel
theorem dX5_days_27 : decode cX5_days 27 = .ok (.aload_n 0, 1) := by decide +kernel
theorem dX5_days_28 : decode cX5_days 28 = .ok (.getfield 7, 3) := by decide +kernel
theorem dX5_days_31 : decode cX5_days 31 = .ok (.iconst 0, 1) := by decide +kernel
theorem dX5_days_32 : decode cX5_days 32 = .ok (.iaload, 1) := by decide +kernel
theorem dX5_days_33 : decode cX5_days 33 = .ok (.ireturn, 1) := by decide +kernel
set_option maxRecDepth 20000 in
theorem ggX5_pour_X5_mayPour : GoodIn wsX5_pour wsX5_mayPour := goodIn_r _ [8, 1, 9, 10, 11, 7, 12, 13, 14, 15, 16, 17, 18, 19, 20, 21, 22, 23, 24, 25, 26, 27, 28, 29, 30, 31, 32, 33, 34, 35, 36, 37, 38, 39, 40, 41, 42, 43, 44, 45, 46, 47, 48, 49, 50, 51, 52, 53, 54, 55, 56, 57, 58, 59, 60, 61, 62, 63, 64, 65, 72, 73, 74, 75, 76, 77, 78, 79, 80, 81, 82] (by decide +kernel) (by decide +kernel)
set_option maxRecDepth 20000 in
theorem gX5_pour_X5_mayPour : GoodIn wsX5_pour (wsV RX5 133 RX5 yX5_mayPour wsX5_mayPour) := goodIn_app (goodIn_of _ (by decide +kernel)) ggX5_pour_X5_mayPour
set_option maxRecDepth 20000 in
theorem ggX5_pour_X5_notes : GoodIn wsX5_pour wsX5_notes := goodIn_r _ [69, 70, 71, 1, 72, 73, 74, 75, 76, 77, 78, 79, 80, 81, 82] (by decide +kernel) (by decide +kernel)
set_option maxRecDepth 20000 in
theorem gX5_pour_X5_notes : GoodIn wsX5_pour (wsV RX5 129 RX5 yX5_notes wsX5_notes) := goodIn_app (goodIn_of _ (by decide +kernel)) ggX5_pour_X5_notes
set_option maxRecDepth 20000 in
theorem ggX5_pour_X5_pours : GoodIn wsX5_pour wsX5_pours := goodIn_r _ [17, 1, 18, 19, 20, 7, 21, 22, 23, 24, 25, 26, 27, 28, 29, 30, 31, 32, 33, 34, 35, 36, 37, 38, 39, 40, 41, 42, 43, 44, 45, 46, 47, 48, 49, 50, 51, 52, 53, 54, 55, 56, 57, 72, 73, 74, 75, 76, 77, 78, 79, 80, 81, 82] (by decide +kernel) (by decide +kernel)
set_option maxRecDepth 20000 in
theorem gX5_pour_X5_pours : GoodIn wsX5_pour (wsV RX5 99 RX5 yX5_pours wsX5_pours) := goodIn_app (goodIn_of _ (by decide +kernel)) ggX5_pour_X5_pours
theorem dX5_pour_0 : decode cX5_pour 0 = .ok (.aload_n 0, 1) := by decide +kernel
theorem dX5_pour_1 : decode cX5_pour 1 = .ok (.getfield 7, 3) := by decide +kernel
theorem dX5_pour_4 : decode cX5_pour 4 = .ok (.iconst 1, 1) := by decide +kernel
theorem dX5_pour_5 : decode cX5_pour 5 = .ok (.iaload, 1) := by decide +kernel
theorem dX5_pour_6 : decode cX5_pour 6 = .ok (.bipush 8, 2) := by decide +kernel
theorem dX5_pour_8 : decode cX5_pour 8 = .ok (.if_icmp .ne 6, 3) := by decide +kernel
theorem dX5_pour_11 : decode cX5_pour 11 = .ok (.ldc 132, 2) := by decide +kernel
theorem dX5_pour_13 : decode cX5_pour 13 = .ok (.ireturn, 1) := by decide +kernel
theorem dX5_pour_14 : decode cX5_pour 14 = .ok (.aload_n 0, 1) := by decide +kernel
theorem dX5_pour_15 : decode cX5_pour 15 = .ok (.invokevirtual 133, 3) := by decide +kernel
theorem dX5_pour_18 : decode cX5_pour 18 = .ok (.ifCond .ne 6, 3) := by decide +kernel
theorem dX5_pour_21 : decode cX5_pour 21 = .ok (.ldc 137, 2) := by decide +kernel
theorem dX5_pour_23 : decode cX5_pour 23 = .ok (.ireturn, 1) := by decide +kernel
theorem dX5_pour_24 : decode cX5_pour 24 = .ok (.aload_n 0, 1) := by decide +kernel
theorem dX5_pour_25 : decode cX5_pour 25 = .ok (.invokevirtual 129, 3) := by decide +kernel
theorem dX5_pour_28 : decode cX5_pour 28 = .ok (.aload_n 0, 1) := by decide +kernel
theorem dX5_pour_29 : decode cX5_pour 29 = .ok (.invokevirtual 99, 3) := by decide +kernel
theorem dX5_pour_32 : decode cX5_pour 32 = .ok (.aload_n 0, 1) := by decide +kernel
theorem dX5_pour_33 : decode cX5_pour 33 = .ok (.getfield 7, 3) := by decide +kernel
theorem dX5_pour_36 : decode cX5_pour 36 = .ok (.iconst 1, 1) := by decide +kernel
theorem dX5_pour_37 : decode cX5_pour 37 = .ok (.iaload, 1) := by decide +kernel
theorem dX5_pour_38 : decode cX5_pour 38 = .ok (.iconst 1, 1) := by decide +kernel
theorem dX5_pour_39 : decode cX5_pour 39 = .ok (.isub, 1) := by decide +kernel
theorem dX5_pour_40 : decode cX5_pour 40 = .ok (.ireturn, 1) := by decide +kernel
set_option maxRecDepth 20000 in
theorem ggX5_strike_X5_isFloor : GoodIn wsX5_strike wsX5_isFloor := goodIn_r _ [7, 8, 9, 10, 6, 11, 83, 84, 85, 86, 87, 88, 89, 90, 91, 92, 93] (by decide +kernel) (by decide +kernel)
set_option maxRecDepth 20000 in
theorem gX5_strike_X5_isFloor : GoodIn wsX5_strike (wsV RX5 82 RX5 yX5_isFloor wsX5_isFloor) := goodIn_app (goodIn_of _ (by decide +kernel)) ggX5_strike_X5_isFloor
set_option maxRecDepth 20000 in
theorem ggX5_strike_X5_mayStrike : GoodIn wsX5_strike wsX5_mayStrike := goodIn_r _ [15, 3, 4, 5, 6, 7, 8, 9, 10, 11, 16, 17, 18, 19, 20, 21, 22, 23, 24, 25, 26, 27, 28, 29, 30, 31, 32, 33, 34, 35, 36, 37, 38, 39, 40, 41, 42, 43, 44, 45, 46, 47, 48, 49, 50, 51, 52, 53, 54, 55, 56, 57, 58, 59, 60, 61, 62, 63, 64, 65, 66, 67, 68, 69, 70, 71, 72, 73, 74, 75, 76, 83, 84, 85, 86, 87, 88, 89, 90, 91, 92, 93] (by decide +kernel) (by decide +kernel)
set_option maxRecDepth 20000 in
theorem gX5_strike_X5_mayStrike : GoodIn wsX5_strike (wsV RX5 102 RX5 yX5_mayStrike wsX5_mayStrike) := goodIn_app (goodIn_of _ (by decide +kernel)) ggX5_strike_X5_mayStrike
set_option maxRecDepth 20000 in
theorem ggX5_strike_X5_notes : GoodIn wsX5_strike wsX5_notes := goodIn_r _ [80, 81, 82, 8, 83, 84, 85, 86, 87, 88, 89, 90, 91, 92, 93] (by decide +kernel) (by decide +kernel)
set_option maxRecDepth 20000 in
theorem gX5_strike_X5_notes : GoodIn wsX5_strike (wsV RX5 129 RX5 yX5_notes wsX5_notes) := goodIn_app (goodIn_of _ (by decide +kernel)) ggX5_strike_X5_notes
set_option maxRecDepth 20000 in
theorem ggX5_strike_X5_strikes : GoodIn wsX5_strike wsX5_strikes := goodIn_r _ [32, 33, 34, 35, 6, 36, 8, 37, 38, 39, 40, 16, 17, 18, 19, 20, 21, 22, 23, 41, 42, 43, 44, 45, 46, 47, 48, 49, 50, 51, 52, 53, 54, 55, 56, 57, 58, 59, 60, 61, 62, 63, 64, 65, 66, 67, 68, 83, 84, 85, 86, 87, 88, 89, 90, 91, 92, 93] (by decide +kernel) (by decide +kernel)
set_option maxRecDepth 20000 in
theorem gX5_strike_X5_strikes : GoodIn wsX5_strike (wsV RX5 88 RX5 yX5_strikes wsX5_strikes) := goodIn_app (goodIn_of _ (by decide +kernel)) ggX5_strike_X5_strikes
set_option maxRecDepth 20000 in
theorem ggX5_strike_X5_lowest : GoodIn wsX5_strike wsX5_lowest := goodIn_r _ [57, 16, 17, 18, 6, 19, 20, 21, 22, 23, 8, 83, 84, 85, 86, 87, 88, 89, 90, 91, 92, 93] (by decide +kernel) (by decide +kernel)
set_option maxRecDepth 20000 in
theorem gX5_strike_X5_lowest : GoodIn wsX5_strike (wsV RX5 59 RX5 yX5_lowest wsX5_lowest) := goodIn_app (goodIn_of _ (by decide +kernel)) ggX5_strike_X5_lowest
theorem dX5_strike_0 : decode cX5_strike 0 = .ok (.aload_n 0, 1) := by decide +kernel
theorem dX5_strike_1 : decode cX5_strike 1 = .ok (.iload_n 1, 1) := by decide +kernel
theorem dX5_strike_2 : decode cX5_strike 2 = .ok (.invokevirtual 82, 3) := by decide +kernel
theorem dX5_strike_5 : decode cX5_strike 5 = .ok (.ifCond .ne 6, 3) := by decide +kernel
theorem dX5_strike_8 : decode cX5_strike 8 = .ok (.ldc 118, 2) := by decide +kernel
theorem dX5_strike_10 : decode cX5_strike 10 = .ok (.ireturn, 1) := by decide +kernel
theorem dX5_strike_11 : decode cX5_strike 11 = .ok (.aload_n 0, 1) := by decide +kernel
theorem dX5_strike_12 : decode cX5_strike 12 = .ok (.iload_n 1, 1) := by decide +kernel
theorem dX5_strike_13 : decode cX5_strike 13 = .ok (.invokevirtual 102, 3) := by decide +kernel
theorem dX5_strike_16 : decode cX5_strike 16 = .ok (.ifCond .ne 6, 3) := by decide +kernel
theorem dX5_strike_19 : decode cX5_strike 19 = .ok (.ldc 137, 2) := by decide +kernel
theorem dX5_strike_21 : decode cX5_strike 21 = .ok (.ireturn, 1) := by decide +kernel
theorem dX5_strike_22 : decode cX5_strike 22 = .ok (.aload_n 0, 1) := by decide +kernel
theorem dX5_strike_23 : decode cX5_strike 23 = .ok (.invokevirtual 129, 3) := by decide +kernel
theorem dX5_strike_26 : decode cX5_strike 26 = .ok (.aload_n 0, 1) := by decide +kernel
theorem dX5_strike_27 : decode cX5_strike 27 = .ok (.iload_n 1, 1) := by decide +kernel
theorem dX5_strike_28 : decode cX5_strike 28 = .ok (.invokevirtual 88, 3) := by decide +kernel
theorem dX5_strike_31 : decode cX5_strike 31 = .ok (.aload_n 0, 1) := by decide +kernel
theorem dX5_strike_32 : decode cX5_strike 32 = .ok (.iload_n 1, 1) := by decide +kernel
theorem dX5_strike_33 : decode cX5_strike 33 = .ok (.invokevirtual 59, 3) := by decide +kernel
theorem dX5_strike_36 : decode cX5_strike 36 = .ok (.ireturn, 1) := by decide +kernel
set_option maxRecDepth 20000 in
theorem ggX5_back_X5_isFloor : GoodIn wsX5_back wsX5_isFloor := goodIn_r _ [7, 8, 9, 10, 6, 11, 34, 35, 36, 37, 38, 39, 40, 41, 42, 43, 44] (by decide +kernel) (by decide +kernel)
set_option maxRecDepth 20000 in
theorem gX5_back_X5_isFloor : GoodIn wsX5_back (wsV RX5 82 RX5 yX5_isFloor wsX5_isFloor) := goodIn_app (goodIn_of _ (by decide +kernel)) ggX5_back_X5_isFloor
set_option maxRecDepth 20000 in
theorem ggX5_back_X5_isPropped : GoodIn wsX5_back wsX5_isPropped := goodIn_r _ [15, 16, 17, 18, 6, 19, 8, 34, 35, 36, 37, 38, 39, 40, 41, 42, 43, 44] (by decide +kernel) (by decide +kernel)
set_option maxRecDepth 20000 in
theorem gX5_back_X5_isPropped : GoodIn wsX5_back (wsV RX5 55 RX5 yX5_isPropped wsX5_isPropped) := goodIn_app (goodIn_of _ (by decide +kernel)) ggX5_back_X5_isPropped
set_option maxRecDepth 20000 in
theorem ggX5_back_X5_notes : GoodIn wsX5_back wsX5_notes := goodIn_r _ [23, 24, 25, 8, 34, 35, 36, 37, 38, 39, 40, 41, 42, 43, 44] (by decide +kernel) (by decide +kernel)
set_option maxRecDepth 20000 in
theorem gX5_back_X5_notes : GoodIn wsX5_back (wsV RX5 129 RX5 yX5_notes wsX5_notes) := goodIn_app (goodIn_of _ (by decide +kernel)) ggX5_back_X5_notes
set_option maxRecDepth 20000 in
theorem ggX5_back_X5_put : GoodIn wsX5_back wsX5_put := goodIn_r _ [29, 8, 34, 35, 36, 37, 38, 39, 40, 41, 42, 43, 44] (by decide +kernel) (by decide +kernel)
set_option maxRecDepth 20000 in
theorem gX5_back_X5_put : GoodIn wsX5_back (wsV RX5 71 RX5 yX5_put wsX5_put) := goodIn_app (goodIn_of _ (by decide +kernel)) ggX5_back_X5_put
set_option maxRecDepth 20000 in
theorem ggX5_back_X5_lowest : GoodIn wsX5_back wsX5_lowest := goodIn_r _ [33, 12, 13, 14, 6, 15, 16, 17, 18, 19, 8, 34, 35, 36, 37, 38, 39, 40, 41, 42, 43, 44] (by decide +kernel) (by decide +kernel)
set_option maxRecDepth 20000 in
theorem gX5_back_X5_lowest : GoodIn wsX5_back (wsV RX5 59 RX5 yX5_lowest wsX5_lowest) := goodIn_app (goodIn_of _ (by decide +kernel)) ggX5_back_X5_lowest
theorem dX5_back_0 : decode cX5_back 0 = .ok (.aload_n 0, 1) := by decide +kernel
theorem dX5_back_1 : decode cX5_back 1 = .ok (.iload_n 1, 1) := by decide +kernel
theorem dX5_back_2 : decode cX5_back 2 = .ok (.invokevirtual 82, 3) := by decide +kernel
theorem dX5_back_5 : decode cX5_back 5 = .ok (.ifCond .ne 6, 3) := by decide +kernel
theorem dX5_back_8 : decode cX5_back 8 = .ok (.ldc 118, 2) := by decide +kernel
theorem dX5_back_10 : decode cX5_back 10 = .ok (.ireturn, 1) := by decide +kernel
theorem dX5_back_11 : decode cX5_back 11 = .ok (.aload_n 0, 1) := by decide +kernel
theorem dX5_back_12 : decode cX5_back 12 = .ok (.iload_n 1, 1) := by decide +kernel
theorem dX5_back_13 : decode cX5_back 13 = .ok (.invokevirtual 55, 3) := by decide +kernel
theorem dX5_back_16 : decode cX5_back 16 = .ok (.ifCond .eq 6, 3) := by decide +kernel
theorem dX5_back_19 : decode cX5_back 19 = .ok (.ldc 137, 2) := by decide +kernel
theorem dX5_back_21 : decode cX5_back 21 = .ok (.ireturn, 1) := by decide +kernel
theorem dX5_back_22 : decode cX5_back 22 = .ok (.aload_n 0, 1) := by decide +kernel
theorem dX5_back_23 : decode cX5_back 23 = .ok (.invokevirtual 129, 3) := by decide +kernel
theorem dX5_back_26 : decode cX5_back 26 = .ok (.aload_n 0, 1) := by decide +kernel
theorem dX5_back_27 : decode cX5_back 27 = .ok (.iload_n 1, 1) := by decide +kernel
theorem dX5_back_28 : decode cX5_back 28 = .ok (.iconst 3, 1) := by decide +kernel
theorem dX5_back_29 : decode cX5_back 29 = .ok (.iconst 1, 1) := by decide +kernel
theorem dX5_back_30 : decode cX5_back 30 = .ok (.invokevirtual 71, 3) := by decide +kernel
theorem dX5_back_33 : decode cX5_back 33 = .ok (.aload_n 0, 1) := by decide +kernel
theorem dX5_back_34 : decode cX5_back 34 = .ok (.iload_n 1, 1) := by decide +kernel
theorem dX5_back_35 : decode cX5_back 35 = .ok (.invokevirtual 59, 3) := by decide +kernel
theorem dX5_back_38 : decode cX5_back 38 = .ok (.ireturn, 1) := by decide +kernel
set_option maxRecDepth 20000 in
theorem ggX5_slow_X5_isFloor : GoodIn wsX5_slow wsX5_isFloor := goodIn_r _ [7, 8, 9, 10, 6, 11, 26, 27, 28, 29, 30, 31, 32, 33, 34, 35, 36] (by decide +kernel) (by decide +kernel)
set_option maxRecDepth 20000 in
theorem gX5_slow_X5_isFloor : GoodIn wsX5_slow (wsV RX5 82 RX5 yX5_isFloor wsX5_isFloor) := goodIn_app (goodIn_of _ (by decide +kernel)) ggX5_slow_X5_isFloor
set_option maxRecDepth 20000 in
theorem ggX5_slow_X5_in : GoodIn wsX5_slow wsX5_in := goodIn_r _ [11] (by decide +kernel) (by decide +kernel)
set_option maxRecDepth 20000 in
theorem gX5_slow_X5_in : GoodIn wsX5_slow (va_wsS RX5 36 yX5_in wsX5_in) := goodIn_app (goodIn_of _ (by decide +kernel)) ggX5_slow_X5_in
set_option maxRecDepth 20000 in
theorem ggX5_slow_X5_notes : GoodIn wsX5_slow wsX5_notes := goodIn_r _ [15, 16, 17, 8, 26, 27, 28, 29, 30, 31, 32, 33, 34, 35, 36] (by decide +kernel) (by decide +kernel)
set_option maxRecDepth 20000 in
theorem gX5_slow_X5_notes : GoodIn wsX5_slow (wsV RX5 129 RX5 yX5_notes wsX5_notes) := goodIn_app (goodIn_of _ (by decide +kernel)) ggX5_slow_X5_notes
set_option maxRecDepth 20000 in
theorem ggX5_slow_X5_of : GoodIn wsX5_slow wsX5_of := goodIn_r _ [21, 8, 26, 27, 28, 29, 30, 31, 32, 33, 34, 35, 36] (by decide +kernel) (by decide +kernel)
set_option maxRecDepth 20000 in
theorem gX5_slow_X5_of : GoodIn wsX5_slow (wsV RX5 44 RX5 yX5_of wsX5_of) := goodIn_app (goodIn_of _ (by decide +kernel)) ggX5_slow_X5_of
set_option maxRecDepth 20000 in
theorem ggX5_slow_X5_put : GoodIn wsX5_slow wsX5_put := goodIn_r _ [25, 8, 26, 27, 28, 29, 30, 31, 32, 33, 34, 35, 36] (by decide +kernel) (by decide +kernel)
set_option maxRecDepth 20000 in
theorem gX5_slow_X5_put : GoodIn wsX5_slow (wsV RX5 71 RX5 yX5_put wsX5_put) := goodIn_app (goodIn_of _ (by decide +kernel)) ggX5_slow_X5_put
theorem dX5_slow_0 : decode cX5_slow 0 = .ok (.aload_n 0, 1) := by decide +kernel
theorem dX5_slow_1 : decode cX5_slow 1 = .ok (.iload_n 1, 1) := by decide +kernel
theorem dX5_slow_2 : decode cX5_slow 2 = .ok (.invokevirtual 82, 3) := by decide +kernel
theorem dX5_slow_5 : decode cX5_slow 5 = .ok (.ifCond .ne 6, 3) := by decide +kernel
theorem dX5_slow_8 : decode cX5_slow 8 = .ok (.ldc 118, 2) := by decide +kernel
theorem dX5_slow_10 : decode cX5_slow 10 = .ok (.ireturn, 1) := by decide +kernel
theorem dX5_slow_11 : decode cX5_slow 11 = .ok (.iload_n 2, 1) := by decide +kernel
theorem dX5_slow_12 : decode cX5_slow 12 = .ok (.iconst 0, 1) := by decide +kernel
theorem dX5_slow_13 : decode cX5_slow 13 = .ok (.bipush 9, 2) := by decide +kernel
theorem dX5_slow_15 : decode cX5_slow 15 = .ok (.invokestatic 36, 3) := by decide +kernel
theorem dX5_slow_18 : decode cX5_slow 18 = .ok (.ifCond .ne 6, 3) := by decide +kernel
theorem dX5_slow_21 : decode cX5_slow 21 = .ok (.ldc 117, 2) := by decide +kernel
theorem dX5_slow_23 : decode cX5_slow 23 = .ok (.ireturn, 1) := by decide +kernel
theorem dX5_slow_24 : decode cX5_slow 24 = .ok (.aload_n 0, 1) := by decide +kernel
theorem dX5_slow_25 : decode cX5_slow 25 = .ok (.invokevirtual 129, 3) := by decide +kernel
theorem dX5_slow_28 : decode cX5_slow 28 = .ok (.aload_n 0, 1) := by decide +kernel
theorem dX5_slow_29 : decode cX5_slow 29 = .ok (.iload_n 1, 1) := by decide +kernel
theorem dX5_slow_30 : decode cX5_slow 30 = .ok (.iconst 1, 1) := by decide +kernel
theorem dX5_slow_31 : decode cX5_slow 31 = .ok (.invokevirtual 44, 3) := by decide +kernel
theorem dX5_slow_34 : decode cX5_slow 34 = .ok (.istore_n 3, 1) := by decide +kernel
theorem dX5_slow_35 : decode cX5_slow 35 = .ok (.aload_n 0, 1) := by decide +kernel
theorem dX5_slow_36 : decode cX5_slow 36 = .ok (.iload_n 1, 1) := by decide +kernel
theorem dX5_slow_37 : decode cX5_slow 37 = .ok (.iconst 1, 1) := by decide +kernel
theorem dX5_slow_38 : decode cX5_slow 38 = .ok (.iload_n 2, 1) := by decide +kernel
theorem dX5_slow_39 : decode cX5_slow 39 = .ok (.invokevirtual 71, 3) := by decide +kernel
theorem dX5_slow_42 : decode cX5_slow 42 = .ok (.iload_n 3, 1) := by decide +kernel
theorem dX5_slow_43 : decode cX5_slow 43 = .ok (.ireturn, 1) := by decide +kernel
set_option maxRecDepth 20000 in
theorem ggX5_bound_X5_in : GoodIn wsX5_bound wsX5_in := goodIn_r _ [7] (by decide +kernel) (by decide +kernel)
set_option maxRecDepth 20000 in
theorem gX5_bound_X5_in : GoodIn wsX5_bound (va_wsS RX5 36 yX5_in wsX5_in) := goodIn_app (goodIn_of _ (by decide +kernel)) ggX5_bound_X5_in
set_option maxRecDepth 20000 in
theorem ggX5_bound_X5_notes : GoodIn wsX5_bound wsX5_notes := goodIn_r _ [11, 12, 13, 2, 14, 15, 16, 17, 18, 19, 20, 21, 22, 23, 24] (by decide +kernel) (by decide +kernel)
set_option maxRecDepth 20000 in
theorem gX5_bound_X5_notes : GoodIn wsX5_bound (wsV RX5 129 RX5 yX5_notes wsX5_notes) := goodIn_app (goodIn_of _ (by decide +kernel)) ggX5_bound_X5_notes
theorem dX5_bound_0 : decode cX5_bound 0 = .ok (.iload_n 1, 1) := by decide +kernel
theorem dX5_bound_1 : decode cX5_bound 1 = .ok (.ifCond .ne 13, 3) := by decide +kernel
theorem dX5_bound_4 : decode cX5_bound 4 = .ok (.iload_n 2, 1) := by decide +kernel
theorem dX5_bound_5 : decode cX5_bound 5 = .ok (.iconst 1, 1) := by decide +kernel
theorem dX5_bound_6 : decode cX5_bound 6 = .ok (.bipush 50, 2) := by decide +kernel
theorem dX5_bound_8 : decode cX5_bound 8 = .ok (.invokestatic 36, 3) := by decide +kernel
theorem dX5_bound_11 : decode cX5_bound 11 = .ok (.ifCond .ne 38, 3) := by decide +kernel
theorem dX5_bound_14 : decode cX5_bound 14 = .ok (.iload_n 1, 1) := by decide +kernel
theorem dX5_bound_15 : decode cX5_bound 15 = .ok (.iconst 1, 1) := by decide +kernel
theorem dX5_bound_16 : decode cX5_bound 16 = .ok (.if_icmp .ne 14, 3) := by decide +kernel
theorem dX5_bound_19 : decode cX5_bound 19 = .ok (.iload_n 2, 1) := by decide +kernel
theorem dX5_bound_20 : decode cX5_bound 20 = .ok (.iconst 1, 1) := by decide +kernel
theorem dX5_bound_21 : decode cX5_bound 21 = .ok (.sipush 400, 3) := by decide +kernel
theorem dX5_bound_24 : decode cX5_bound 24 = .ok (.invokestatic 36, 3) := by decide +kernel
theorem dX5_bound_27 : decode cX5_bound 27 = .ok (.ifCond .ne 22, 3) := by decide +kernel
theorem dX5_bound_30 : decode cX5_bound 30 = .ok (.iload_n 1, 1) := by decide +kernel
theorem dX5_bound_31 : decode cX5_bound 31 = .ok (.iconst 2, 1) := by decide +kernel
theorem dX5_bound_32 : decode cX5_bound 32 = .ok (.if_icmp .eq 8, 3) := by decide +kernel
theorem dX5_bound_35 : decode cX5_bound 35 = .ok (.iload_n 1, 1) := by decide +kernel
theorem dX5_bound_36 : decode cX5_bound 36 = .ok (.iconst 3, 1) := by decide +kernel
theorem dX5_bound_37 : decode cX5_bound 37 = .ok (.if_icmp .ne 16, 3) := by decide +kernel
theorem dX5_bound_40 : decode cX5_bound 40 = .ok (.iload_n 2, 1) := by decide +kernel
theorem dX5_bound_41 : decode cX5_bound 41 = .ok (.iconst 0, 1) := by decide +kernel
theorem dX5_bound_42 : decode cX5_bound 42 = .ok (.iconst 2, 1) := by decide +kernel
theorem dX5_bound_43 : decode cX5_bound 43 = .ok (.invokestatic 36, 3) := by decide +kernel
theorem dX5_bound_46 : decode cX5_bound 46 = .ok (.ifCond .eq 7, 3) := by decide +kernel
theorem dX5_bound_49 : decode cX5_bound 49 = .ok (.iconst 1, 1) := by decide +kernel
theorem dX5_bound_50 : decode cX5_bound 50 = .ok (.goto 4, 3) := by decide +kernel
theorem dX5_bound_53 : decode cX5_bound 53 = .ok (.iconst 0, 1) := by decide +kernel
theorem dX5_bound_54 : decode cX5_bound 54 = .ok (.istore_n 3, 1) := by decide +kernel
theorem dX5_bound_55 : decode cX5_bound 55 = .ok (.iload_n 3, 1) := by decide +kernel
theorem dX5_bound_56 : decode cX5_bound 56 = .ok (.ifCond .ne 6, 3) := by decide +kernel
theorem dX5_bound_59 : decode cX5_bound 59 = .ok (.ldc 117, 2) := by decide +kernel
theorem dX5_bound_61 : decode cX5_bound 61 = .ok (.ireturn, 1) := by decide +kernel
theorem dX5_bound_62 : decode cX5_bound 62 = .ok (.iload_n 1, 1) := by decide +kernel
theorem dX5_bound_63 : decode cX5_bound 63 = .ok (.ifCond .ne 15, 3) := by decide +kernel
theorem dX5_bound_66 : decode cX5_bound 66 = .ok (.aload_n 0, 1) := by decide +kernel
theorem dX5_bound_67 : decode cX5_bound 67 = .ok (.getfield 7, 3) := by decide +kernel
theorem dX5_bound_70 : decode cX5_bound 70 = .ok (.iconst 1, 1) := by decide +kernel
theorem dX5_bound_71 : decode cX5_bound 71 = .ok (.iaload, 1) := by decide +kernel
theorem dX5_bound_72 : decode cX5_bound 72 = .ok (.ifCond .le 6, 3) := by decide +kernel
theorem dX5_bound_75 : decode cX5_bound 75 = .ok (.ldc 137, 2) := by decide +kernel
theorem dX5_bound_77 : decode cX5_bound 77 = .ok (.ireturn, 1) := by decide +kernel
theorem dX5_bound_78 : decode cX5_bound 78 = .ok (.aload_n 0, 1) := by decide +kernel
theorem dX5_bound_79 : decode cX5_bound 79 = .ok (.invokevirtual 129, 3) := by decide +kernel
theorem dX5_bound_82 : decode cX5_bound 82 = .ok (.aload_n 0, 1) := by decide +kernel
theorem dX5_bound_83 : decode cX5_bound 83 = .ok (.getfield 7, 3) := by decide +kernel
theorem dX5_bound_86 : decode cX5_bound 86 = .ok (.iconst 2, 1) := by decide +kernel
theorem dX5_bound_87 : decode cX5_bound 87 = .ok (.iload_n 1, 1) := by decide +kernel
theorem dX5_bound_88 : decode cX5_bound 88 = .ok (.iadd, 1) := by decide +kernel
theorem dX5_bound_89 : decode cX5_bound 89 = .ok (.iaload, 1) := by decide +kernel
theorem dX5_bound_90 : decode cX5_bound 90 = .ok (.istore 4, 2) := by decide +kernel
theorem dX5_bound_92 : decode cX5_bound 92 = .ok (.aload_n 0, 1) := by decide +kernel
theorem dX5_bound_93 : decode cX5_bound 93 = .ok (.getfield 7, 3) := by decide +kernel
theorem dX5_bound_96 : decode cX5_bound 96 = .ok (.iconst 2, 1) := by decide +kernel
theorem dX5_bound_97 : decode cX5_bound 97 = .ok (.iload_n 1, 1) := by decide +kernel
theorem dX5_bound_98 : decode cX5_bound 98 = .ok (.iadd, 1) := by decide +kernel
theorem dX5_bound_99 : decode cX5_bound 99 = .ok (.iload_n 2, 1) := by decide +kernel
theorem dX5_bound_100 : decode cX5_bound 100 = .ok (.iastore, 1) := by decide +kernel
theorem dX5_bound_101 : decode cX5_bound 101 = .ok (.iload 4, 2) := by decide +kernel
theorem dX5_bound_103 : decode cX5_bound 103 = .ok (.ireturn, 1) := by decide +kernel
set_option maxRecDepth 20000 in
theorem ggX5_clear_X5_notes : GoodIn wsX5_clear wsX5_notes := goodIn_r _ [6, 7, 8, 1, 9, 10, 11, 12, 13, 14, 15, 16, 17, 18, 19] (by decide +kernel) (by decide +kernel)
set_option maxRecDepth 20000 in
theorem gX5_clear_X5_notes : GoodIn wsX5_clear (wsV RX5 129 RX5 yX5_notes wsX5_notes) := goodIn_app (goodIn_of _ (by decide +kernel)) ggX5_clear_X5_notes
theorem dX5_clear_0 : decode cX5_clear 0 = .ok (.aload_n 0, 1) := by decide +kernel
theorem dX5_clear_1 : decode cX5_clear 1 = .ok (.invokevirtual 129, 3) := by decide +kernel
theorem dX5_clear_4 : decode cX5_clear 4 = .ok (.aload_n 0, 1) := by decide +kernel
theorem dX5_clear_5 : decode cX5_clear 5 = .ok (.getfield 7, 3) := by decide +kernel
theorem dX5_clear_8 : decode cX5_clear 8 = .ok (.iconst 1, 1) := by decide +kernel
theorem dX5_clear_9 : decode cX5_clear 9 = .ok (.iaload, 1) := by decide +kernel
theorem dX5_clear_10 : decode cX5_clear 10 = .ok (.istore_n 1, 1) := by decide +kernel
theorem dX5_clear_11 : decode cX5_clear 11 = .ok (.aload_n 0, 1) := by decide +kernel
theorem dX5_clear_12 : decode cX5_clear 12 = .ok (.getfield 7, 3) := by decide +kernel
theorem dX5_clear_15 : decode cX5_clear 15 = .ok (.iconst 1, 1) := by decide +kernel
theorem dX5_clear_16 : decode cX5_clear 16 = .ok (.iconst 0, 1) := by decide +kernel
theorem dX5_clear_17 : decode cX5_clear 17 = .ok (.iastore, 1) := by decide +kernel
theorem dX5_clear_18 : decode cX5_clear 18 = .ok (.aload_n 0, 1) := by decide +kernel
theorem dX5_clear_19 : decode cX5_clear 19 = .ok (.getfield 7, 3) := by decide +kernel
theorem dX5_clear_22 : decode cX5_clear 22 = .ok (.iconst 0, 1) := by decide +kernel
theorem dX5_clear_23 : decode cX5_clear 23 = .ok (.iconst 0, 1) := by decide +kernel
theorem dX5_clear_24 : decode cX5_clear 24 = .ok (.iastore, 1) := by decide +kernel
theorem dX5_clear_25 : decode cX5_clear 25 = .ok (.iload_n 1, 1) := by decide +kernel
theorem dX5_clear_26 : decode cX5_clear 26 = .ok (.ireturn, 1) := by decide +kernel
theorem dX5_drawOf_0 : decode cX5_drawOf 0 = .ok (.aload_n 0, 1) := by decide +kernel
theorem dX5_drawOf_1 : decode cX5_drawOf 1 = .ok (.aload_n 0, 1) := by decide +kernel
theorem dX5_drawOf_2 : decode cX5_drawOf 2 = .ok (.getfield 138, 3) := by decide +kernel
theorem dX5_drawOf_5 : decode cX5_drawOf 5 = .ok (.ldc2_w 142, 3) := by decide +kernel
theorem dX5_drawOf_8 : decode cX5_drawOf 8 = .ok (.lmul, 1) := by decide +kernel
theorem dX5_drawOf_9 : decode cX5_drawOf 9 = .ok (.ldc2_w 144, 3) := by decide +kernel
theorem dX5_drawOf_12 : decode cX5_drawOf 12 = .ok (.ladd, 1) := by decide +kernel
theorem dX5_drawOf_13 : decode cX5_drawOf 13 = .ok (.ldc2_w 146, 3) := by decide +kernel
theorem dX5_drawOf_16 : decode cX5_drawOf 16 = .ok (.lrem, 1) := by decide +kernel
theorem dX5_drawOf_17 : decode cX5_drawOf 17 = .ok (.putfield 138, 3) := by decide +kernel
theorem dX5_drawOf_20 : decode cX5_drawOf 20 = .ok (.aload_n 0, 1) := by decide +kernel
theorem dX5_drawOf_21 : decode cX5_drawOf 21 = .ok (.getfield 138, 3) := by decide +kernel
theorem dX5_drawOf_24 : decode cX5_drawOf 24 = .ok (.ldc2_w 148, 3) := by decide +kernel
theorem dX5_drawOf_27 : decode cX5_drawOf 27 = .ok (.ldiv, 1) := by decide +kernel
theorem dX5_drawOf_28 : decode cX5_drawOf 28 = .ok (.iload_n 1, 1) := by decide +kernel
theorem dX5_drawOf_29 : decode cX5_drawOf 29 = .ok (.i2l, 1) := by decide +kernel
theorem dX5_drawOf_30 : decode cX5_drawOf 30 = .ok (.lrem, 1) := by decide +kernel
theorem dX5_drawOf_31 : decode cX5_drawOf 31 = .ok (.l2i, 1) := by decide +kernel
theorem dX5_drawOf_32 : decode cX5_drawOf 32 = .ok (.ireturn, 1) := by decide +kernel
set_option maxRecDepth 20000 in
theorem ggX5_drift_X5_in : GoodIn wsX5_drift wsX5_in := goodIn_r _ [6] (by decide +kernel) (by decide +kernel)
set_option maxRecDepth 20000 in
theorem gX5_drift_X5_in : GoodIn wsX5_drift (va_wsS RX5 36 yX5_in wsX5_in) := goodIn_app (goodIn_of _ (by decide +kernel)) ggX5_drift_X5_in
set_option maxRecDepth 20000 in
theorem ggX5_drift_X5_notes : GoodIn wsX5_drift wsX5_notes := goodIn_r _ [10, 11, 12, 2, 99, 100, 101, 102, 103, 104, 105, 106, 107, 108, 109] (by decide +kernel) (by decide +kernel)
set_option maxRecDepth 20000 in
theorem gX5_drift_X5_notes : GoodIn wsX5_drift (wsV RX5 129 RX5 yX5_notes wsX5_notes) := goodIn_app (goodIn_of _ (by decide +kernel)) ggX5_drift_X5_notes
set_option maxRecDepth 20000 in
theorem ggX5_drift_X5_drawOf : GoodIn wsX5_drift wsX5_drawOf := goodIn_r _ [16, 17, 18, 19, 20, 21, 99, 100, 101, 102, 103, 104, 105, 106, 107, 108, 109] (by decide +kernel) (by decide +kernel)
set_option maxRecDepth 20000 in
theorem gX5_drift_X5_drawOf : GoodIn wsX5_drift (wsV RX5 150 RX5 yX5_drawOf wsX5_drawOf) := goodIn_app (goodIn_of _ (by decide +kernel)) ggX5_drift_X5_drawOf
set_option maxRecDepth 20000 in
theorem ggX5_drift_X5_mayPour : GoodIn wsX5_drift wsX5_mayPour := goodIn_r _ [25, 2, 26, 27, 28, 5, 29, 30, 31, 32, 33, 34, 35, 36, 37, 38, 39, 40, 41, 42, 43, 44, 45, 46, 47, 48, 49, 50, 51, 52, 53, 54, 55, 56, 57, 58, 59, 60, 61, 62, 63, 64, 65, 66, 67, 68, 69, 70, 71, 72, 73, 74, 75, 76, 77, 78, 79, 80, 81, 82, 99, 100, 101, 102, 103, 104, 105, 106, 107, 108, 109] (by decide +kernel) (by decide +kernel)
set_option maxRecDepth 20000 in
theorem gX5_drift_X5_mayPour : GoodIn wsX5_drift (wsV RX5 133 RX5 yX5_mayPour wsX5_mayPour) := goodIn_app (goodIn_of _ (by decide +kernel)) ggX5_drift_X5_mayPour
set_option maxRecDepth 20000 in
theorem ggX5_drift_X5_pours : GoodIn wsX5_drift wsX5_pours := goodIn_r _ [34, 2, 35, 36, 37, 5, 38, 39, 40, 41, 42, 43, 44, 45, 46, 47, 48, 49, 50, 51, 52, 53, 54, 55, 56, 57, 58, 59, 60, 61, 62, 63, 64, 65, 66, 67, 68, 69, 70, 71, 72, 73, 74, 99, 100, 101, 102, 103, 104, 105, 106, 107, 108, 109] (by decide +kernel) (by decide +kernel)
set_option maxRecDepth 20000 in
theorem gX5_drift_X5_pours : GoodIn wsX5_drift (wsV RX5 99 RX5 yX5_pours wsX5_pours) := goodIn_app (goodIn_of _ (by decide +kernel)) ggX5_drift_X5_pours
set_option maxRecDepth 20000 in
theorem ggX5_drift_X5_mayStrike : GoodIn wsX5_drift wsX5_mayStrike := goodIn_r _ [86, 87, 88, 89, 5, 90, 2, 3, 4, 6, 52, 53, 54, 55, 56, 57, 58, 59, 26, 27, 28, 29, 30, 91, 92, 93, 94, 95, 96, 97, 98, 60, 61, 62, 63, 35, 36, 37, 38, 39, 40, 41, 42, 43, 44, 45, 46, 47, 48, 49, 50, 51, 64, 65, 66, 67, 68, 69, 70, 71, 72, 73, 74, 75, 76, 77, 78, 79, 80, 81, 82, 99, 100, 101, 102, 103, 104, 105, 106, 107, 108, 109] (by decide +kernel) (by decide +kernel)
set_option maxRecDepth 20000 in
theorem gX5_drift_X5_mayStrike : GoodIn wsX5_drift (wsV RX5 102 RX5 yX5_mayStrike wsX5_mayStrike) := goodIn_app (goodIn_of _ (by decide +kernel)) ggX5_drift_X5_mayStrike
set_option maxRecDepth 20000 in
theorem ggX5_drift_X5_strikes : GoodIn wsX5_drift wsX5_strikes := goodIn_r _ [94, 95, 96, 97, 5, 98, 2, 60, 61, 62, 63, 52, 53, 54, 55, 56, 57, 58, 59, 35, 36, 37, 38, 39, 40, 41, 42, 43, 44, 45, 46, 47, 48, 49, 50, 51, 64, 65, 66, 67, 68, 69, 70, 71, 72, 73, 74, 99, 100, 101, 102, 103, 104, 105, 106, 107, 108, 109] (by decide +kernel) (by decide +kernel)
set_option maxRecDepth 20000 in
theorem gX5_drift_X5_strikes : GoodIn wsX5_drift (wsV RX5 88 RX5 yX5_strikes wsX5_strikes) := goodIn_app (goodIn_of _ (by decide +kernel)) ggX5_drift_X5_strikes
set_option maxRecDepth 20000 in
theorem ggX5_drift_X5_isFloor : GoodIn wsX5_drift wsX5_isFloor := goodIn_r _ [90, 2, 3, 4, 5, 6, 99, 100, 101, 102, 103, 104, 105, 106, 107, 108, 109] (by decide +kernel) (by decide +kernel)
set_option maxRecDepth 20000 in
theorem gX5_drift_X5_isFloor : GoodIn wsX5_drift (wsV RX5 82 RX5 yX5_isFloor wsX5_isFloor) := goodIn_app (goodIn_of _ (by decide +kernel)) ggX5_drift_X5_isFloor
set_option maxRecDepth 20000 in
theorem ggX5_drift_X5_put : GoodIn wsX5_drift wsX5_put := goodIn_r _ [38, 2, 99, 100, 101, 102, 103, 104, 105, 106, 107, 108, 109] (by decide +kernel) (by decide +kernel)
set_option maxRecDepth 20000 in
theorem gX5_drift_X5_put : GoodIn wsX5_drift (wsV RX5 71 RX5 yX5_put wsX5_put) := goodIn_app (goodIn_of _ (by decide +kernel)) ggX5_drift_X5_put
theorem dX5_drift_0 : decode cX5_drift 0 = .ok (.iload_n 1, 1) := by decide +kernel
theorem dX5_drift_1 : decode cX5_drift 1 = .ok (.iconst 1, 1) := by decide +kernel
theorem dX5_drift_2 : decode cX5_drift 2 = .ok (.bipush 20, 2) := by decide +kernel
theorem dX5_drift_4 : decode cX5_drift 4 = .ok (.invokestatic 36, 3) := by decide +kernel
theorem dX5_drift_7 : decode cX5_drift 7 = .ok (.ifCond .ne 6, 3) := by decide +kernel
theorem dX5_drift_10 : decode cX5_drift 10 = .ok (.ldc 117, 2) := by decide +kernel
theorem dX5_drift_12 : decode cX5_drift 12 = .ok (.ireturn, 1) := by decide +kernel
theorem dX5_drift_13 : decode cX5_drift 13 = .ok (.iconst 0, 1) := by decide +kernel
theorem dX5_drift_14 : decode cX5_drift 14 = .ok (.istore_n 2, 1) := by decide +kernel
theorem dX5_drift_15 : decode cX5_drift 15 = .ok (.iload_n 2, 1) := by decide +kernel
theorem dX5_drift_16 : decode cX5_drift 16 = .ok (.iload_n 1, 1) := by decide +kernel
theorem dX5_drift_17 : decode cX5_drift 17 = .ok (.if_icmp .ge 118, 3) := by decide +kernel
theorem dX5_drift_20 : decode cX5_drift 20 = .ok (.aload_n 0, 1) := by decide +kernel
theorem dX5_drift_21 : decode cX5_drift 21 = .ok (.invokevirtual 129, 3) := by decide +kernel
theorem dX5_drift_24 : decode cX5_drift 24 = .ok (.aload_n 0, 1) := by decide +kernel
theorem dX5_drift_25 : decode cX5_drift 25 = .ok (.iconst 5, 1) := by decide +kernel
theorem dX5_drift_26 : decode cX5_drift 26 = .ok (.invokevirtual 150, 3) := by decide +kernel
theorem dX5_drift_29 : decode cX5_drift 29 = .ok (.istore_n 3, 1) := by decide +kernel
theorem dX5_drift_30 : decode cX5_drift 30 = .ok (.aload_n 0, 1) := by decide +kernel
theorem dX5_drift_31 : decode cX5_drift 31 = .ok (.bipush 8, 2) := by decide +kernel
theorem dX5_drift_33 : decode cX5_drift 33 = .ok (.invokevirtual 150, 3) := by decide +kernel
theorem dX5_drift_36 : decode cX5_drift 36 = .ok (.istore 4, 2) := by decide +kernel
theorem dX5_drift_38 : decode cX5_drift 38 = .ok (.aload_n 0, 1) := by decide +kernel
theorem dX5_drift_39 : decode cX5_drift 39 = .ok (.bipush 10, 2) := by decide +kernel
theorem dX5_drift_41 : decode cX5_drift 41 = .ok (.invokevirtual 150, 3) := by decide +kernel
theorem dX5_drift_44 : decode cX5_drift 44 = .ok (.istore 5, 2) := by decide +kernel
theorem dX5_drift_46 : decode cX5_drift 46 = .ok (.iload_n 3, 1) := by decide +kernel
theorem dX5_drift_47 : decode cX5_drift 47 = .ok (.iconst 2, 1) := by decide +kernel
theorem dX5_drift_48 : decode cX5_drift 48 = .ok (.if_icmp .ge 17, 3) := by decide +kernel
theorem dX5_drift_51 : decode cX5_drift 51 = .ok (.aload_n 0, 1) := by decide +kernel
theorem dX5_drift_52 : decode cX5_drift 52 = .ok (.getfield 7, 3) := by decide +kernel
theorem dX5_drift_55 : decode cX5_drift 55 = .ok (.iconst 0, 1) := by decide +kernel
theorem dX5_drift_56 : decode cX5_drift 56 = .ok (.dup2, 1) := by decide +kernel
theorem dX5_drift_57 : decode cX5_drift 57 = .ok (.iaload, 1) := by decide +kernel
theorem dX5_drift_58 : decode cX5_drift 58 = .ok (.iload 5, 2) := by decide +kernel
theorem dX5_drift_60 : decode cX5_drift 60 = .ok (.iadd, 1) := by decide +kernel
theorem dX5_drift_61 : decode cX5_drift 61 = .ok (.iastore, 1) := by decide +kernel
theorem dX5_drift_62 : decode cX5_drift 62 = .ok (.goto 67, 3) := by decide +kernel
theorem dX5_drift_65 : decode cX5_drift 65 = .ok (.iload_n 3, 1) := by decide +kernel
theorem dX5_drift_66 : decode cX5_drift 66 = .ok (.iconst 2, 1) := by decide +kernel
theorem dX5_drift_67 : decode cX5_drift 67 = .ok (.if_icmp .ne 17, 3) := by decide +kernel
theorem dX5_drift_70 : decode cX5_drift 70 = .ok (.aload_n 0, 1) := by decide +kernel
theorem dX5_drift_71 : decode cX5_drift 71 = .ok (.invokevirtual 133, 3) := by decide +kernel
theorem dX5_drift_74 : decode cX5_drift 74 = .ok (.ifCond .eq 10, 3) := by decide +kernel
theorem dX5_drift_77 : decode cX5_drift 77 = .ok (.aload_n 0, 1) := by decide +kernel
theorem dX5_drift_78 : decode cX5_drift 78 = .ok (.invokevirtual 99, 3) := by decide +kernel
theorem dX5_drift_81 : decode cX5_drift 81 = .ok (.goto 48, 3) := by decide +kernel
theorem dX5_drift_84 : decode cX5_drift 84 = .ok (.iload_n 3, 1) := by decide +kernel
theorem dX5_drift_85 : decode cX5_drift 85 = .ok (.iconst 3, 1) := by decide +kernel
theorem dX5_drift_86 : decode cX5_drift 86 = .ok (.if_icmp .ne 21, 3) := by decide +kernel
theorem dX5_drift_89 : decode cX5_drift 89 = .ok (.aload_n 0, 1) := by decide +kernel
theorem dX5_drift_90 : decode cX5_drift 90 = .ok (.iload 4, 2) := by decide +kernel
theorem dX5_drift_92 : decode cX5_drift 92 = .ok (.invokevirtual 102, 3) := by decide +kernel
theorem dX5_drift_95 : decode cX5_drift 95 = .ok (.ifCond .eq 12, 3) := by decide +kernel
theorem dX5_drift_98 : decode cX5_drift 98 = .ok (.aload_n 0, 1) := by decide +kernel
theorem dX5_drift_99 : decode cX5_drift 99 = .ok (.iload 4, 2) := by decide +kernel
theorem dX5_drift_101 : decode cX5_drift 101 = .ok (.invokevirtual 88, 3) := by decide +kernel
theorem dX5_drift_104 : decode cX5_drift 104 = .ok (.goto 25, 3) := by decide +kernel
theorem dX5_drift_107 : decode cX5_drift 107 = .ok (.iload_n 3, 1) := by decide +kernel
theorem dX5_drift_108 : decode cX5_drift 108 = .ok (.iconst 4, 1) := by decide +kernel
theorem dX5_drift_109 : decode cX5_drift 109 = .ok (.if_icmp .ne 20, 3) := by decide +kernel
theorem dX5_drift_112 : decode cX5_drift 112 = .ok (.aload_n 0, 1) := by decide +kernel
theorem dX5_drift_113 : decode cX5_drift 113 = .ok (.iload 4, 2) := by decide +kernel
theorem dX5_drift_115 : decode cX5_drift 115 = .ok (.invokevirtual 82, 3) := by decide +kernel
theorem dX5_drift_118 : decode cX5_drift 118 = .ok (.ifCond .eq 11, 3) := by decide +kernel
theorem dX5_drift_121 : decode cX5_drift 121 = .ok (.aload_n 0, 1) := by decide +kernel
theorem dX5_drift_122 : decode cX5_drift 122 = .ok (.iload 4, 2) := by decide +kernel
theorem dX5_drift_124 : decode cX5_drift 124 = .ok (.iconst 3, 1) := by decide +kernel
theorem dX5_drift_125 : decode cX5_drift 125 = .ok (.iconst 1, 1) := by decide +kernel
theorem dX5_drift_126 : decode cX5_drift 126 = .ok (.invokevirtual 71, 3) := by decide +kernel
theorem dX5_drift_129 : decode cX5_drift 129 = .ok (.iinc 2 1, 3) := by decide +kernel
theorem dX5_drift_132 : decode cX5_drift 132 = .ok (.goto (-117), 3) := by decide +kernel
theorem dX5_drift_135 : decode cX5_drift 135 = .ok (.aload_n 0, 1) := by decide +kernel
theorem dX5_drift_136 : decode cX5_drift 136 = .ok (.getfield 7, 3) := by decide +kernel
theorem dX5_drift_139 : decode cX5_drift 139 = .ok (.iconst 1, 1) := by decide +kernel
theorem dX5_drift_140 : decode cX5_drift 140 = .ok (.iaload, 1) := by decide +kernel
theorem dX5_drift_141 : decode cX5_drift 141 = .ok (.ireturn, 1) := by decide +kernel
set_option maxRecDepth 20000 in
theorem ggX5_undo_X5_in : GoodIn wsX5_undo wsX5_in := goodIn_r _ [9] (by decide +kernel) (by decide +kernel)
set_option maxRecDepth 20000 in
theorem gX5_undo_X5_in : GoodIn wsX5_undo (va_wsS RX5 36 yX5_in wsX5_in) := goodIn_app (goodIn_of _ (by decide +kernel)) ggX5_undo_X5_in
theorem dX5_undo_0 : decode cX5_undo 0 = .ok (.iload_n 1, 1) := by decide +kernel
theorem dX5_undo_1 : decode cX5_undo 1 = .ok (.iconst 1, 1) := by decide +kernel
theorem dX5_undo_2 : decode cX5_undo 2 = .ok (.bipush 20, 2) := by decide +kernel
theorem dX5_undo_4 : decode cX5_undo 4 = .ok (.invokestatic 36, 3) := by decide +kernel
theorem dX5_undo_7 : decode cX5_undo 7 = .ok (.ifCond .ne 6, 3) := by decide +kernel
theorem dX5_undo_10 : decode cX5_undo 10 = .ok (.ldc 117, 2) := by decide +kernel
theorem dX5_undo_12 : decode cX5_undo 12 = .ok (.ireturn, 1) := by decide +kernel
theorem dX5_undo_13 : decode cX5_undo 13 = .ok (.iload_n 1, 1) := by decide +kernel
theorem dX5_undo_14 : decode cX5_undo 14 = .ok (.aload_n 0, 1) := by decide +kernel
theorem dX5_undo_15 : decode cX5_undo 15 = .ok (.getfield 40, 3) := by decide +kernel
theorem dX5_undo_18 : decode cX5_undo 18 = .ok (.if_icmp .le 6, 3) := by decide +kernel
theorem dX5_undo_21 : decode cX5_undo 21 = .ok (.ldc 137, 2) := by decide +kernel
theorem dX5_undo_23 : decode cX5_undo 23 = .ok (.ireturn, 1) := by decide +kernel
theorem dX5_undo_24 : decode cX5_undo 24 = .ok (.aload_n 0, 1) := by decide +kernel
theorem dX5_undo_25 : decode cX5_undo 25 = .ok (.dup, 1) := by decide +kernel
theorem dX5_undo_26 : decode cX5_undo 26 = .ok (.getfield 40, 3) := by decide +kernel
theorem dX5_undo_29 : decode cX5_undo 29 = .ok (.iload_n 1, 1) := by decide +kernel
theorem dX5_undo_30 : decode cX5_undo 30 = .ok (.isub, 1) := by decide +kernel
theorem dX5_undo_31 : decode cX5_undo 31 = .ok (.putfield 40, 3) := by decide +kernel
theorem dX5_undo_34 : decode cX5_undo 34 = .ok (.iconst 0, 1) := by decide +kernel
theorem dX5_undo_35 : decode cX5_undo 35 = .ok (.istore_n 2, 1) := by decide +kernel
theorem dX5_undo_36 : decode cX5_undo 36 = .ok (.iload_n 2, 1) := by decide +kernel
theorem dX5_undo_37 : decode cX5_undo 37 = .ok (.bipush 38, 2) := by decide +kernel
theorem dX5_undo_39 : decode cX5_undo 39 = .ok (.if_icmp .ge 29, 3) := by decide +kernel
theorem dX5_undo_42 : decode cX5_undo 42 = .ok (.aload_n 0, 1) := by decide +kernel
theorem dX5_undo_43 : decode cX5_undo 43 = .ok (.getfield 7, 3) := by decide +kernel
theorem dX5_undo_46 : decode cX5_undo 46 = .ok (.iload_n 2, 1) := by decide +kernel
theorem dX5_undo_47 : decode cX5_undo 47 = .ok (.aload_n 0, 1) := by decide +kernel
theorem dX5_undo_48 : decode cX5_undo 48 = .ok (.getfield 16, 3) := by decide +kernel
theorem dX5_undo_51 : decode cX5_undo 51 = .ok (.bipush 38, 2) := by decide +kernel
theorem dX5_undo_53 : decode cX5_undo 53 = .ok (.aload_n 0, 1) := by decide +kernel
theorem dX5_undo_54 : decode cX5_undo 54 = .ok (.getfield 40, 3) := by decide +kernel
theorem dX5_undo_57 : decode cX5_undo 57 = .ok (.imul, 1) := by decide +kernel
theorem dX5_undo_58 : decode cX5_undo 58 = .ok (.iload_n 2, 1) := by decide +kernel
theorem dX5_undo_59 : decode cX5_undo 59 = .ok (.iadd, 1) := by decide +kernel
theorem dX5_undo_60 : decode cX5_undo 60 = .ok (.iaload, 1) := by decide +kernel
theorem dX5_undo_61 : decode cX5_undo 61 = .ok (.iastore, 1) := by decide +kernel
theorem dX5_undo_62 : decode cX5_undo 62 = .ok (.iinc 2 1, 3) := by decide +kernel
theorem dX5_undo_65 : decode cX5_undo 65 = .ok (.goto (-29), 3) := by decide +kernel
theorem dX5_undo_68 : decode cX5_undo 68 = .ok (.aload_n 0, 1) := by decide +kernel
theorem dX5_undo_69 : decode cX5_undo 69 = .ok (.getfield 7, 3) := by decide +kernel
theorem dX5_undo_72 : decode cX5_undo 72 = .ok (.iconst 0, 1) := by decide +kernel
theorem dX5_undo_73 : decode cX5_undo 73 = .ok (.iaload, 1) := by decide +kernel
theorem dX5_undo_74 : decode cX5_undo 74 = .ok (.ireturn, 1) := by decide +kernel
set_option maxRecDepth 20000 in
theorem ggX5_write_X5_isFloor : GoodIn wsX5_write wsX5_isFloor := goodIn_r _ [9, 10, 11, 12, 8, 13, 14, 15, 16, 17, 18, 19, 20, 21, 22, 23, 24] (by decide +kernel) (by decide +kernel)
set_option maxRecDepth 20000 in
theorem gX5_write_X5_isFloor : GoodIn wsX5_write (wsV RX5 82 RX5 yX5_isFloor wsX5_isFloor) := goodIn_app (goodIn_of _ (by decide +kernel)) ggX5_write_X5_isFloor
theorem dX5_write_0 : decode cX5_write 0 = .ok (.aload_n 0, 1) := by decide +kernel
theorem dX5_write_1 : decode cX5_write 1 = .ok (.iload_n 1, 1) := by decide +kernel
theorem dX5_write_2 : decode cX5_write 2 = .ok (.invokevirtual 82, 3) := by decide +kernel
theorem dX5_write_5 : decode cX5_write 5 = .ok (.ifCond .ne 6, 3) := by decide +kernel
theorem dX5_write_8 : decode cX5_write 8 = .ok (.ldc 118, 2) := by decide +kernel
theorem dX5_write_10 : decode cX5_write 10 = .ok (.ireturn, 1) := by decide +kernel
theorem dX5_write_11 : decode cX5_write 11 = .ok (.aload_n 0, 1) := by decide +kernel
theorem dX5_write_12 : decode cX5_write 12 = .ok (.getfield 105, 3) := by decide +kernel
theorem dX5_write_15 : decode cX5_write 15 = .ok (.bipush 20, 2) := by decide +kernel
theorem dX5_write_17 : decode cX5_write 17 = .ok (.if_icmp .ne 6, 3) := by decide +kernel
theorem dX5_write_20 : decode cX5_write 20 = .ok (.ldc 132, 2) := by decide +kernel
theorem dX5_write_22 : decode cX5_write 22 = .ok (.ireturn, 1) := by decide +kernel
theorem dX5_write_23 : decode cX5_write 23 = .ok (.aload_n 0, 1) := by decide +kernel
theorem dX5_write_24 : decode cX5_write 24 = .ok (.getfield 30, 3) := by decide +kernel
theorem dX5_write_27 : decode cX5_write 27 = .ok (.iconst 2, 1) := by decide +kernel
theorem dX5_write_28 : decode cX5_write 28 = .ok (.aload_n 0, 1) := by decide +kernel
theorem dX5_write_29 : decode cX5_write 29 = .ok (.getfield 105, 3) := by decide +kernel
theorem dX5_write_32 : decode cX5_write 32 = .ok (.imul, 1) := by decide +kernel
theorem dX5_write_33 : decode cX5_write 33 = .ok (.iload_n 1, 1) := by decide +kernel
theorem dX5_write_34 : decode cX5_write 34 = .ok (.iastore, 1) := by decide +kernel
theorem dX5_write_35 : decode cX5_write 35 = .ok (.aload_n 0, 1) := by decide +kernel
theorem dX5_write_36 : decode cX5_write 36 = .ok (.getfield 30, 3) := by decide +kernel
theorem dX5_write_39 : decode cX5_write 39 = .ok (.iconst 2, 1) := by decide +kernel
theorem dX5_write_40 : decode cX5_write 40 = .ok (.aload_n 0, 1) := by decide +kernel
theorem dX5_write_41 : decode cX5_write 41 = .ok (.getfield 105, 3) := by decide +kernel
theorem dX5_write_44 : decode cX5_write 44 = .ok (.imul, 1) := by decide +kernel
theorem dX5_write_45 : decode cX5_write 45 = .ok (.iconst 1, 1) := by decide +kernel
theorem dX5_write_46 : decode cX5_write 46 = .ok (.iadd, 1) := by decide +kernel
theorem dX5_write_47 : decode cX5_write 47 = .ok (.iload_n 2, 1) := by decide +kernel
theorem dX5_write_48 : decode cX5_write 48 = .ok (.iastore, 1) := by decide +kernel
theorem dX5_write_49 : decode cX5_write 49 = .ok (.aload_n 0, 1) := by decide +kernel
theorem dX5_write_50 : decode cX5_write 50 = .ok (.dup, 1) := by decide +kernel
theorem dX5_write_51 : decode cX5_write 51 = .ok (.getfield 105, 3) := by decide +kernel
theorem dX5_write_54 : decode cX5_write 54 = .ok (.iconst 1, 1) := by decide +kernel
theorem dX5_write_55 : decode cX5_write 55 = .ok (.iadd, 1) := by decide +kernel
theorem dX5_write_56 : decode cX5_write 56 = .ok (.putfield 105, 3) := by decide +kernel
theorem dX5_write_59 : decode cX5_write 59 = .ok (.aload_n 0, 1) := by decide +kernel
theorem dX5_write_60 : decode cX5_write 60 = .ok (.getfield 105, 3) := by decide +kernel
theorem dX5_write_63 : decode cX5_write 63 = .ok (.ireturn, 1) := by decide +kernel
theorem dX5_tear_0 : decode cX5_tear 0 = .ok (.aload_n 0, 1) := by decide +kernel
theorem dX5_tear_1 : decode cX5_tear 1 = .ok (.getfield 105, 3) := by decide +kernel
theorem dX5_tear_4 : decode cX5_tear 4 = .ok (.istore_n 1, 1) := by decide +kernel
theorem dX5_tear_5 : decode cX5_tear 5 = .ok (.aload_n 0, 1) := by decide +kernel
theorem dX5_tear_6 : decode cX5_tear 6 = .ok (.iconst 0, 1) := by decide +kernel
theorem dX5_tear_7 : decode cX5_tear 7 = .ok (.putfield 105, 3) := by decide +kernel
theorem dX5_tear_10 : decode cX5_tear 10 = .ok (.iload_n 1, 1) := by decide +kernel
theorem dX5_tear_11 : decode cX5_tear 11 = .ok (.ireturn, 1) := by decide +kernel
theorem dX5_seed_0 : decode cX5_seed 0 = .ok (.iload_n 1, 1) := by decide +kernel
theorem dX5_seed_1 : decode cX5_seed 1 = .ok (.ifCond .ge 6, 3) := by decide +kernel
theorem dX5_seed_4 : decode cX5_seed 4 = .ok (.ldc 117, 2) := by decide +kernel
theorem dX5_seed_6 : decode cX5_seed 6 = .ok (.ireturn, 1) := by decide +kernel
theorem dX5_seed_7 : decode cX5_seed 7 = .ok (.aload_n 0, 1) := by decide +kernel
theorem dX5_seed_8 : decode cX5_seed 8 = .ok (.getfield 138, 3) := by decide +kernel
theorem dX5_seed_11 : decode cX5_seed 11 = .ok (.l2i, 1) := by decide +kernel
theorem dX5_seed_12 : decode cX5_seed 12 = .ok (.istore_n 2, 1) := by decide +kernel
theorem dX5_seed_13 : decode cX5_seed 13 = .ok (.aload_n 0, 1) := by decide +kernel
theorem dX5_seed_14 : decode cX5_seed 14 = .ok (.iload_n 1, 1) := by decide +kernel
theorem dX5_seed_15 : decode cX5_seed 15 = .ok (.i2l, 1) := by decide +kernel
theorem dX5_seed_16 : decode cX5_seed 16 = .ok (.putfield 138, 3) := by decide +kernel
theorem dX5_seed_19 : decode cX5_seed 19 = .ok (.iload_n 2, 1) := by decide +kernel
theorem dX5_seed_20 : decode cX5_seed 20 = .ok (.ireturn, 1) := by decide +kernel
set_option maxRecDepth 20000 in
theorem ggX5_keep_X5_in : GoodIn wsX5_keep wsX5_in := goodIn_r _ [11] (by decide +kernel) (by decide +kernel)
set_option maxRecDepth 20000 in
theorem gX5_keep_X5_in : GoodIn wsX5_keep (va_wsS RX5 36 yX5_in wsX5_in) := goodIn_app (goodIn_of _ (by decide +kernel)) ggX5_keep_X5_in
theorem dX5_keep_0 : decode cX5_keep 0 = .ok (.iload_n 1, 1) := by decide +kernel
theorem dX5_keep_1 : decode cX5_keep 1 = .ok (.iconst 0, 1) := by decide +kernel
theorem dX5_keep_2 : decode cX5_keep 2 = .ok (.iconst 1, 1) := by decide +kernel
theorem dX5_keep_3 : decode cX5_keep 3 = .ok (.invokestatic 36, 3) := by decide +kernel
theorem dX5_keep_6 : decode cX5_keep 6 = .ok (.ifCond .ne 6, 3) := by decide +kernel
theorem dX5_keep_9 : decode cX5_keep 9 = .ok (.ldc 118, 2) := by decide +kernel
theorem dX5_keep_11 : decode cX5_keep 11 = .ok (.ireturn, 1) := by decide +kernel
theorem dX5_keep_12 : decode cX5_keep 12 = .ok (.iconst 0, 1) := by decide +kernel
theorem dX5_keep_13 : decode cX5_keep 13 = .ok (.istore_n 2, 1) := by decide +kernel
theorem dX5_keep_14 : decode cX5_keep 14 = .ok (.iload_n 2, 1) := by decide +kernel
theorem dX5_keep_15 : decode cX5_keep 15 = .ok (.bipush 38, 2) := by decide +kernel
theorem dX5_keep_17 : decode cX5_keep 17 = .ok (.if_icmp .ge 26, 3) := by decide +kernel
theorem dX5_keep_20 : decode cX5_keep 20 = .ok (.aload_n 0, 1) := by decide +kernel
theorem dX5_keep_21 : decode cX5_keep 21 = .ok (.getfield 19, 3) := by decide +kernel
theorem dX5_keep_24 : decode cX5_keep 24 = .ok (.bipush 38, 2) := by decide +kernel
theorem dX5_keep_26 : decode cX5_keep 26 = .ok (.iload_n 1, 1) := by decide +kernel
theorem dX5_keep_27 : decode cX5_keep 27 = .ok (.imul, 1) := by decide +kernel
theorem dX5_keep_28 : decode cX5_keep 28 = .ok (.iload_n 2, 1) := by decide +kernel
theorem dX5_keep_29 : decode cX5_keep 29 = .ok (.iadd, 1) := by decide +kernel
theorem dX5_keep_30 : decode cX5_keep 30 = .ok (.aload_n 0, 1) := by decide +kernel
theorem dX5_keep_31 : decode cX5_keep 31 = .ok (.getfield 7, 3) := by decide +kernel
theorem dX5_keep_34 : decode cX5_keep 34 = .ok (.iload_n 2, 1) := by decide +kernel
theorem dX5_keep_35 : decode cX5_keep 35 = .ok (.iaload, 1) := by decide +kernel
theorem dX5_keep_36 : decode cX5_keep 36 = .ok (.iastore, 1) := by decide +kernel
theorem dX5_keep_37 : decode cX5_keep 37 = .ok (.iinc 2 1, 3) := by decide +kernel
theorem dX5_keep_40 : decode cX5_keep 40 = .ok (.goto (-26), 3) := by decide +kernel
theorem dX5_keep_43 : decode cX5_keep 43 = .ok (.aload_n 0, 1) := by decide +kernel
theorem dX5_keep_44 : decode cX5_keep 44 = .ok (.getfield 22, 3) := by decide +kernel
theorem dX5_keep_47 : decode cX5_keep 47 = .ok (.iload_n 1, 1) := by decide +kernel
theorem dX5_keep_48 : decode cX5_keep 48 = .ok (.aload_n 0, 1) := by decide +kernel
theorem dX5_keep_49 : decode cX5_keep 49 = .ok (.getfield 138, 3) := by decide +kernel
theorem dX5_keep_52 : decode cX5_keep 52 = .ok (.lastore, 1) := by decide +kernel
theorem dX5_keep_53 : decode cX5_keep 53 = .ok (.aload_n 0, 1) := by decide +kernel
theorem dX5_keep_54 : decode cX5_keep 54 = .ok (.getfield 26, 3) := by decide +kernel
theorem dX5_keep_57 : decode cX5_keep 57 = .ok (.iload_n 1, 1) := by decide +kernel
theorem dX5_keep_58 : decode cX5_keep 58 = .ok (.iconst 1, 1) := by decide +kernel
theorem dX5_keep_59 : decode cX5_keep 59 = .ok (.bastore, 1) := by decide +kernel
theorem dX5_keep_60 : decode cX5_keep 60 = .ok (.aload_n 0, 1) := by decide +kernel
theorem dX5_keep_61 : decode cX5_keep 61 = .ok (.iconst 0, 1) := by decide +kernel
theorem dX5_keep_62 : decode cX5_keep 62 = .ok (.putfield 40, 3) := by decide +kernel
theorem dX5_keep_65 : decode cX5_keep 65 = .ok (.iconst 1, 1) := by decide +kernel
theorem dX5_keep_66 : decode cX5_keep 66 = .ok (.ireturn, 1) := by decide +kernel
set_option maxRecDepth 20000 in
theorem ggX5_goBack_X5_in : GoodIn wsX5_goBack wsX5_in := goodIn_r _ [12] (by decide +kernel) (by decide +kernel)
set_option maxRecDepth 20000 in
theorem gX5_goBack_X5_in : GoodIn wsX5_goBack (va_wsS RX5 36 yX5_in wsX5_in) := goodIn_app (goodIn_of _ (by decide +kernel)) ggX5_goBack_X5_in
theorem dX5_goBack_0 : decode cX5_goBack 0 = .ok (.iload_n 1, 1) := by decide +kernel
theorem dX5_goBack_1 : decode cX5_goBack 1 = .ok (.iconst 0, 1) := by decide +kernel
theorem dX5_goBack_2 : decode cX5_goBack 2 = .ok (.iconst 1, 1) := by decide +kernel
theorem dX5_goBack_3 : decode cX5_goBack 3 = .ok (.invokestatic 36, 3) := by decide +kernel
theorem dX5_goBack_6 : decode cX5_goBack 6 = .ok (.ifCond .ne 6, 3) := by decide +kernel
theorem dX5_goBack_9 : decode cX5_goBack 9 = .ok (.ldc 118, 2) := by decide +kernel
theorem dX5_goBack_11 : decode cX5_goBack 11 = .ok (.ireturn, 1) := by decide +kernel
theorem dX5_goBack_12 : decode cX5_goBack 12 = .ok (.aload_n 0, 1) := by decide +kernel
theorem dX5_goBack_13 : decode cX5_goBack 13 = .ok (.getfield 26, 3) := by decide +kernel
theorem dX5_goBack_16 : decode cX5_goBack 16 = .ok (.iload_n 1, 1) := by decide +kernel
theorem dX5_goBack_17 : decode cX5_goBack 17 = .ok (.baload, 1) := by decide +kernel
theorem dX5_goBack_18 : decode cX5_goBack 18 = .ok (.ifCond .ne 6, 3) := by decide +kernel
theorem dX5_goBack_21 : decode cX5_goBack 21 = .ok (.ldc 137, 2) := by decide +kernel
theorem dX5_goBack_23 : decode cX5_goBack 23 = .ok (.ireturn, 1) := by decide +kernel
theorem dX5_goBack_24 : decode cX5_goBack 24 = .ok (.iconst 0, 1) := by decide +kernel
theorem dX5_goBack_25 : decode cX5_goBack 25 = .ok (.istore_n 2, 1) := by decide +kernel
theorem dX5_goBack_26 : decode cX5_goBack 26 = .ok (.iload_n 2, 1) := by decide +kernel
theorem dX5_goBack_27 : decode cX5_goBack 27 = .ok (.bipush 38, 2) := by decide +kernel
theorem dX5_goBack_29 : decode cX5_goBack 29 = .ok (.if_icmp .ge 26, 3) := by decide +kernel
theorem dX5_goBack_32 : decode cX5_goBack 32 = .ok (.aload_n 0, 1) := by decide +kernel
theorem dX5_goBack_33 : decode cX5_goBack 33 = .ok (.getfield 7, 3) := by decide +kernel
theorem dX5_goBack_36 : decode cX5_goBack 36 = .ok (.iload_n 2, 1) := by decide +kernel
theorem dX5_goBack_37 : decode cX5_goBack 37 = .ok (.aload_n 0, 1) := by decide +kernel
theorem dX5_goBack_38 : decode cX5_goBack 38 = .ok (.getfield 19, 3) := by decide +kernel
theorem dX5_goBack_41 : decode cX5_goBack 41 = .ok (.bipush 38, 2) := by decide +kernel
theorem dX5_goBack_43 : decode cX5_goBack 43 = .ok (.iload_n 1, 1) := by decide +kernel
theorem dX5_goBack_44 : decode cX5_goBack 44 = .ok (.imul, 1) := by decide +kernel
theorem dX5_goBack_45 : decode cX5_goBack 45 = .ok (.iload_n 2, 1) := by decide +kernel
theorem dX5_goBack_46 : decode cX5_goBack 46 = .ok (.iadd, 1) := by decide +kernel
theorem dX5_goBack_47 : decode cX5_goBack 47 = .ok (.iaload, 1) := by decide +kernel
theorem dX5_goBack_48 : decode cX5_goBack 48 = .ok (.iastore, 1) := by decide +kernel
theorem dX5_goBack_49 : decode cX5_goBack 49 = .ok (.iinc 2 1, 3) := by decide +kernel
theorem dX5_goBack_52 : decode cX5_goBack 52 = .ok (.goto (-26), 3) := by decide +kernel
theorem dX5_goBack_55 : decode cX5_goBack 55 = .ok (.aload_n 0, 1) := by decide +kernel
theorem dX5_goBack_56 : decode cX5_goBack 56 = .ok (.aload_n 0, 1) := by decide +kernel
theorem dX5_goBack_57 : decode cX5_goBack 57 = .ok (.getfield 22, 3) := by decide +kernel
theorem dX5_goBack_60 : decode cX5_goBack 60 = .ok (.iload_n 1, 1) := by decide +kernel
theorem dX5_goBack_61 : decode cX5_goBack 61 = .ok (.laload, 1) := by decide +kernel
theorem dX5_goBack_62 : decode cX5_goBack 62 = .ok (.putfield 138, 3) := by decide +kernel
theorem dX5_goBack_65 : decode cX5_goBack 65 = .ok (.aload_n 0, 1) := by decide +kernel
theorem dX5_goBack_66 : decode cX5_goBack 66 = .ok (.iconst 0, 1) := by decide +kernel
theorem dX5_goBack_67 : decode cX5_goBack 67 = .ok (.putfield 40, 3) := by decide +kernel
theorem dX5_goBack_70 : decode cX5_goBack 70 = .ok (.iconst 1, 1) := by decide +kernel
theorem dX5_goBack_71 : decode cX5_goBack 71 = .ok (.ireturn, 1) := by decide +kernel
end
section
/-! ===== the writer's own layer: worlds by members, contracts of methods that make nothing, calls ===== -/
theorem sp_P_iff {D : va_G} {cl : List vw_C} {ws : va_W} {H : Heap} : va_P D cl ws H ↔ ∀ q ∈ ws, va_at D cl q H :=
  ⟨fun h q hq => by obtain ⟨i, hi⟩ := List.getElem?_of_mem hq; exact h i q hi, fun h _ q hk => h q (List.mem_of_getElem? hk)⟩
theorem sp_D_iff {A : Nat → Prop} {ws : va_W} : va_D A ws ↔ (ws.map Prod.fst).Nodup ∧ ∀ q ∈ ws, A q.1 := by
  constructor
  · intro h
    refine ⟨?_, fun q hq => by obtain ⟨i, hi⟩ := List.getElem?_of_mem hq; exact h.2 i q hi⟩
    unfold List.Nodup
    rw [List.pairwise_iff_getElem]
    intro i j hi hj hij he
    have hi' : i < ws.length := by simpa using hi
    have hj' : j < ws.length := by simpa using hj
    have := h.1 i j ws[i] ws[j] (List.getElem?_eq_getElem hi') (List.getElem?_eq_getElem hj') (by simpa using he)
    omega
  · intro h
    refine ⟨fun i j p q hi hj he => ?_, fun k q hk => h.2 q (List.mem_of_getElem? hk)⟩
    have hn := h.1
    unfold List.Nodup at hn
    rw [List.pairwise_iff_getElem] at hn
    obtain ⟨hi', rfl⟩ := List.getElem?_eq_some_iff.mp hi
    obtain ⟨hj', rfl⟩ := List.getElem?_eq_some_iff.mp hj
    rcases Nat.lt_trichotomy i j with h1 | h1 | h1
    · exact absurd (by rw [List.getElem_map, List.getElem_map]; exact he) (hn i j (by simpa using hi') (by simpa using hj') h1)
    · exact h1
    · exact absurd (by rw [List.getElem_map, List.getElem_map]; exact he.symm) (hn j i (by simpa using hj') (by simpa using hi') h1)
theorem sp_P_perm {D : va_G} {cl : List vw_C} {w1 w2 : va_W} {H : Heap} (h : w1.Perm w2) (hP : va_P D cl w1 H) : va_P D cl w2 H :=
  sp_P_iff.mpr fun q hq => sp_P_iff.mp hP q (h.mem_iff.mpr hq)
theorem sp_D_perm {A : Nat → Prop} {w1 w2 : va_W} (h : w1.Perm w2) (hD : va_D A w1) : va_D A w2 :=
  sp_D_iff.mpr ⟨(h.map Prod.fst).nodup_iff.mp (sp_D_iff.mp hD).1, fun q hq => (sp_D_iff.mp hD).2 q (h.mem_iff.mpr hq)⟩
theorem sp_P_l {D : va_G} {cl : List vw_C} {w1 w2 : va_W} {H : Heap} (hP : va_P D cl (w1 ++ w2) H) : va_P D cl w1 H :=
  sp_P_iff.mpr fun q hq => sp_P_iff.mp hP q (List.mem_append_left _ hq)
theorem sp_P_r {D : va_G} {cl : List vw_C} {w1 w2 : va_W} {H : Heap} (hP : va_P D cl (w1 ++ w2) H) : va_P D cl w2 H :=
  sp_P_iff.mpr fun q hq => sp_P_iff.mp hP q (List.mem_append_right _ hq)
theorem sp_D_l {A : Nat → Prop} {w1 w2 : va_W} (hD : va_D A (w1 ++ w2)) : va_D A w1 := by
  have h := sp_D_iff.mp hD
  rw [List.map_append, List.nodup_append] at h
  exact sp_D_iff.mpr ⟨h.1.1, fun q hq => h.2 q (List.mem_append_left _ hq)⟩
theorem sp_D_r {A : Nat → Prop} {w1 w2 : va_W} (hD : va_D A (w1 ++ w2)) : va_D A w2 := by
  have h := sp_D_iff.mp hD
  rw [List.map_append, List.nodup_append] at h
  exact sp_D_iff.mpr ⟨h.1.2.1, fun q hq => h.2 q (List.mem_append_right _ hq)⟩
theorem sp_D_ne {A : Nat → Prop} {w1 w2 : va_W} (hD : va_D A (w1 ++ w2)) : ∀ p ∈ w1, ∀ q ∈ w2, p.1 ≠ q.1 := by
  have h := sp_D_iff.mp hD
  rw [List.map_append, List.nodup_append] at h
  exact fun p hp q hq => h.1.2.2 p.1 (List.mem_map_of_mem hp) q.1 (List.mem_map_of_mem hq)
theorem sp_A_iff {ws : va_W} {sz q : Nat} : va_A ws sz q ↔ (∃ x ∈ ws, x.1 = q) ∨ sz ≤ q := by
  constructor
  · rintro (⟨k, e, h⟩ | h)
    · exact Or.inl ⟨_, List.mem_of_getElem? h, rfl⟩
    · exact Or.inr h
  · rintro (⟨x, hx, rfl⟩ | h)
    · obtain ⟨i, hi⟩ := List.getElem?_of_mem hx
      exact Or.inl ⟨i, x.2, hi⟩
    · exact Or.inr h
/-- behind a call on the front part of a world -/
theorem sp_join {A0 : Nat → Prop} {D : va_G} {cl : List vw_C} {wc wr w1 : va_W} {H H1 : Heap} (hP : va_P D cl (wc ++ wr) H) (hD : va_D A0 (wc ++ wr)) (hk : ∀ q : Nat, q < H.size → ¬ va_A wc H.size q → H1[q]? = H[q]?) (hF : ∀ q, va_A wc H.size q → A0 q) (hP1 : va_P D cl w1 H1) (hD1 : va_D (va_A wc H.size) w1) : va_P D cl (w1 ++ wr) H1 ∧ va_D A0 (w1 ++ wr) := by
  have apart : ∀ q ∈ wr, q.1 < H.size ∧ ¬ va_A wc H.size q.1 := by
    intro q hq
    have hl := (sp_P_iff.mp hP q (List.mem_append_right _ hq)).lt
    refine ⟨hl, fun h => ?_⟩
    rcases sp_A_iff.mp h with ⟨x, hx, e⟩ | h
    · exact sp_D_ne hD x hx q hq e
    · omega
  refine ⟨sp_P_iff.mpr fun q hq => ?_, ?_⟩
  · rcases List.mem_append.mp hq with h | h
    · exact sp_P_iff.mp hP1 q h
    · exact (sp_P_iff.mp hP q (List.mem_append_right _ h)).kept (hk q.1 (apart q h).1 (apart q h).2)
  · refine va_D.app (hD1.weaken fun _ q _ h => hF q.1 h) (sp_D_r hD) (fun i j x y hx hy hxy => ?_)
    exact (apart y (List.mem_of_getElem? hy)).2 (by rw [← hxy]; exact hD1.2 i x hx)
theorem sp_free {A0 : Nat → Prop} {wc wr : va_W} {H0 H : Heap} {locs : List Loc} (hD : va_D A0 (wc ++ wr)) (hS : va_S A0 H0 H locs) (hA : ∀ q, H0.size ≤ q → A0 q) : ∀ q, va_A wc H.size q → A0 q := by
  intro q h
  rcases sp_A_iff.mp h with ⟨x, hx, rfl⟩ | h
  · exact (sp_D_iff.mp hD).2 x (List.mem_append_left _ hx)
  · exact hA q (Nat.le_trans hS.1 h)
/-- the classes of arrays, and the links between nest mates that methods need -/
abbrev sp_G : Type := va_G × ClassId × ClassId × ClassId × ClassId × ClassId
def sp_ty (g : sp_G) : List (ClassId × FieldType) := [(g.2.1, .int), (g.2.2.1, .long), (g.2.2.2.1, .boolean), (g.2.2.2.2.1, .object RX1), (g.2.2.2.2.2, .object RX3)]
def sp_K (g : sp_G) (U : State) : Prop := va_K g.1 vwCl (sp_ty g) U ∧ va_Nw (.methodLinkNest RX3 41 yX4_percentAt "StrikePlan") U
theorem sp_K.blind {g : sp_G} {U : State} {f : JFrame} {mk : MethodId} {a : Array Value} (h : sp_K g U) : sp_K g (U.calling f mk a) :=
  ⟨va_K.moved (u := U) (U := U.calling f mk a) (Vm.Alike.refl U.vm) h.1, va_Nw.same rfl rfl h.2⟩
theorem sp_K.warm {g : sp_G} {s U : State} (hW : s.WarmedH U.vm) (h : sp_K g s) : sp_K g U := ⟨va_K.moved hW.alike h.1, va_Nw.warmM hW h.2⟩
/-- a method's start: its world, and nothing else -/
def sp_pre (g : sp_G) (sz : Nat) (w : va_W) (U : State) : Prop := U.heap.size = sz ∧ va_P g.1 vwCl w U.heap ∧ sp_K g U ∧ va_D (fun _ => True) w
def sp_at (g : sp_G) (A : Nat → Prop) {S : Type} (wS : S → va_W) (u : S) (t : State) : Prop := va_P g.1 vwCl (wS u) t.heap ∧ va_D A (wS u)
def bI (b : Bool) : Int32 := if b then 1 else 0
/-- contracts: an int, a boolean, nothing is answered; no cell is made -/
def sp_CI (l : Launch) (g : sp_G) (y : MethodName) (ws : List Cond) (rm : Room) (av : List Value) (w : va_W) {S : Type} (post : Int32 → S → Prop) (wS : S → va_W) : Prop :=
  ∀ sz : Nat, Met l y ws rm (va_Pc av (sp_pre g sz w)) (va_Qi post (sp_at g (va_A w sz) wS) (va_A w sz)) 0 0 (va_A w sz)
def sp_CB (l : Launch) (g : sp_G) (y : MethodName) (ws : List Cond) (rm : Room) (av : List Value) (w : va_W) {S : Type} (post : Bool → S → Prop) (wS : S → va_W) : Prop :=
  sp_CI l g y ws rm av w (fun r u => ∃ b : Bool, r = bI b ∧ post b u) wS
def sp_CV (l : Launch) (g : sp_G) (y : MethodName) (ws : List Cond) (rm : Room) (av : List Value) (w : va_W) {S : Type} (post : S → Prop) (wS : S → va_W) : Prop :=
  ∀ sz : Nat, Met l y ws rm (va_Pc av (sp_pre g sz w)) (va_Qv post (sp_at g (va_A w sz) wS) (va_A w sz)) 0 0 (va_A w sz)
set_option maxHeartbeats 4000000 in
theorem sp_CI.of {l : Launch} {g : sp_G} {y : MethodName} {ws ws' : List Cond} {rm : Room} {av : List Value} {w : va_W} {S : Type} {post : Int32 → S → Prop} {wS : S → va_W} {cc : ByteArray} {maxL : Nat} (hy : plainName y.cls = true) (hw : ws = Cond.code y cc maxL (some .int) :: ws') (hlen : (lg_sl av).length ≤ maxL)
    (body : ∀ (p : Program) (e : Env) (s : State) (m : MethodId) (below : List Frame) (meth : Method) (c : Code) (Q : State → Prop) (A : Nat → Prop) (ls : Array Slot), CallFix p m c cc maxL s av.toArray ws y.cls → sp_K g s → va_P g.1 vwCl w s.heap → va_D A w → (∀ q, s.heap.size ≤ q → A q) → lv_has ls maxL (lv_args 0 av) →
      (∀ (H : Heap) (locs : List Loc) (pc : Nat) (ls : Array Slot) (r : Int32) (u : S), decode cc pc = .ok (.ireturn, 1) → post r u → va_P g.1 vwCl (wS u) H → va_D A (wS u) → va_S A s.heap H locs → W p l e rm s m av.toArray below meth c H locs 0 0 Q (F0 m pc ls [.int r])) →
      W p l e rm s m av.toArray below meth c s.heap [] 0 0 Q (F0 m 0 ls [])) : sp_CI l g y ws rm av w post wS := by
  intro sz
  refine Met.ofW (cc := cc) (maxL := maxL) (ret := some .int) hy hw ?_
  intro p e s m args below meth c s₁ B hml hv
  obtain ⟨rfl, hsz, hP, hK, hD0⟩ := hv
  subst hsz
  have hD := hD0.self (sz := s.heap.size)
  rw [lg_entry_eq]
  refine body p e s m below meth c _ (va_A w s.heap.size) _ ⟨B.exec, B.bytes, hml, findClass_of_methodNamed B.named, atoms_spec (ws := ws) B.pre⟩ hK hP hD (fun q h => Or.inr h) (lv_entry av hlen) ?_
  intro H locs pc ls r u hd hp hP1 hD1 hS
  have hlocks := B.notSynchronized
  exact W.iret (v := r) B.exec B.bytes B.returns (fun t ht hW => ⟨⟨r, u, rfl, hp, by rw [ht]; exact hP1, hD1⟩, hS.F ht⟩) hS.2.2 hd
set_option maxHeartbeats 4000000 in
theorem sp_CB.of {l : Launch} {g : sp_G} {y : MethodName} {ws ws' : List Cond} {rm : Room} {av : List Value} {w : va_W} {S : Type} {post : Bool → S → Prop} {wS : S → va_W} {cc : ByteArray} {maxL : Nat} (hy : plainName y.cls = true) (hw : ws = Cond.code y cc maxL (some .boolean) :: ws') (hlen : (lg_sl av).length ≤ maxL)
    (body : ∀ (p : Program) (e : Env) (s : State) (m : MethodId) (below : List Frame) (meth : Method) (c : Code) (Q : State → Prop) (A : Nat → Prop) (ls : Array Slot), CallFix p m c cc maxL s av.toArray ws y.cls → sp_K g s → va_P g.1 vwCl w s.heap → va_D A w → (∀ q, s.heap.size ≤ q → A q) → lv_has ls maxL (lv_args 0 av) →
      (∀ (H : Heap) (locs : List Loc) (pc : Nat) (ls : Array Slot) (b : Bool) (u : S), decode cc pc = .ok (.ireturn, 1) → post b u → va_P g.1 vwCl (wS u) H → va_D A (wS u) → va_S A s.heap H locs → W p l e rm s m av.toArray below meth c H locs 0 0 Q (F0 m pc ls [.int (bI b)])) →
      W p l e rm s m av.toArray below meth c s.heap [] 0 0 Q (F0 m 0 ls [])) : sp_CB l g y ws rm av w post wS := by
  intro sz
  refine Met.ofW (cc := cc) (maxL := maxL) (ret := some .boolean) hy hw ?_
  intro p e s m args below meth c s₁ B hml hv
  obtain ⟨rfl, hsz, hP, hK, hD0⟩ := hv
  subst hsz
  have hD := hD0.self (sz := s.heap.size)
  rw [lg_entry_eq]
  refine body p e s m below meth c _ (va_A w s.heap.size) _ ⟨B.exec, B.bytes, hml, findClass_of_methodNamed B.named, atoms_spec (ws := ws) B.pre⟩ hK hP hD (fun q h => Or.inr h) (lv_entry av hlen) ?_
  intro H locs pc ls b u hd hp hP1 hD1 hS
  have hlocks := B.notSynchronized
  exact W.zret (v := bI b) B.exec B.bytes B.returns (by cases b <;> rfl) (fun t ht hW => ⟨⟨bI b, u, rfl, ⟨b, rfl, hp⟩, by rw [ht]; exact hP1, hD1⟩, hS.F ht⟩) hS.2.2 hd
set_option maxHeartbeats 4000000 in
theorem sp_CV.of {l : Launch} {g : sp_G} {y : MethodName} {ws ws' : List Cond} {rm : Room} {av : List Value} {w : va_W} {S : Type} {post : S → Prop} {wS : S → va_W} {cc : ByteArray} {maxL : Nat} (hy : plainName y.cls = true) (hw : ws = Cond.code y cc maxL none :: ws') (hlen : (lg_sl av).length ≤ maxL)
    (body : ∀ (p : Program) (e : Env) (s : State) (m : MethodId) (below : List Frame) (meth : Method) (c : Code) (Q : State → Prop) (A : Nat → Prop) (ls : Array Slot), CallFix p m c cc maxL s av.toArray ws y.cls → sp_K g s → va_P g.1 vwCl w s.heap → va_D A w → (∀ q, s.heap.size ≤ q → A q) → lv_has ls maxL (lv_args 0 av) →
      (∀ (H : Heap) (locs : List Loc) (pc : Nat) (ls : Array Slot) (u : S), decode cc pc = .ok (.return_, 1) → post u → va_P g.1 vwCl (wS u) H → va_D A (wS u) → va_S A s.heap H locs → W p l e rm s m av.toArray below meth c H locs 0 0 Q (F0 m pc ls [])) →
      W p l e rm s m av.toArray below meth c s.heap [] 0 0 Q (F0 m 0 ls [])) : sp_CV l g y ws rm av w post wS := by
  intro sz
  refine Met.ofW (cc := cc) (maxL := maxL) (ret := none) hy hw ?_
  intro p e s m args below meth c s₁ B hml hv
  obtain ⟨rfl, hsz, hP, hK, hD0⟩ := hv
  subst hsz
  have hD := hD0.self (sz := s.heap.size)
  rw [lg_entry_eq]
  refine body p e s m below meth c _ (va_A w s.heap.size) _ ⟨B.exec, B.bytes, hml, findClass_of_methodNamed B.named, atoms_spec (ws := ws) B.pre⟩ hK hP hD (fun q h => Or.inr h) (lv_entry av hlen) ?_
  intro H locs pc ls u hd hp hP1 hD1 hS
  have hlocks := B.notSynchronized
  exact W.vret B.exec B.bytes B.returns (fun t ht hW => ⟨⟨u, rfl, hp, by rw [ht]; exact hP1, hD1⟩, hS.F ht⟩) hS.2.2 hd
theorem sp_blind {g : sp_G} {sz : Nat} {w : va_W} {av : List Value} : FrameBlind (va_Pc av (sp_pre g sz w)) :=
  fun _ _ _ _ q => ⟨q.1, q.2.1, q.2.2.1, q.2.2.2.1.blind, q.2.2.2.2⟩
theorem sp_start {g : sp_G} {s : State} {H : Heap} {w : va_W} {av : List Value} {A : Nat → Prop} (hK : sp_K g s) (hP : va_P g.1 vwCl w H) (hD : va_D A w) : ∀ U : State, U.heap = H → s.WarmedH U.vm → va_Pc av (sp_pre g H.size w) av.toArray U :=
  fun U hU hW => ⟨rfl, by rw [hU], by rw [hU]; exact hP, hK.warm hW, hD.weaken fun _ _ _ _ => trivial⟩
section SPC
variable {p : Program} {l : Launch} {e : Env} {R : Room} {s : State} {m : MethodId} {args : Array Value} {below : List Frame} {meth : Method} {c : Code} {H : Heap} {locs : List Loc} {Q : State → Prop} {g : sp_G} {A : Nat → Prop}
variable {Ts ws ws' : List Cond} {cc bytes : ByteArray} {nL maxL index n pc ci q0 : Nat} {own C host : String} {y : MethodName} {ret : Option FieldType} {rm : Room} {b : Nat} {As rest st0 fs : List Value} {ls : Array Slot} {wc wr : va_W} {S : Type} {wS : S → va_W} {q : vw_C}
theorem sp_top {x y : Int32} (h : x = y) (k : W p l e R s m args below meth c H locs 0 0 Q (F0 m pc ls (.int y :: rest))) : W p l e R s m args below meth c H locs 0 0 Q (F0 m pc ls (.int x :: rest)) := h ▸ k
theorem sp_top_l {x y : Int64} (h : x = y) (k : W p l e R s m args below meth c H locs 0 0 Q (F0 m pc ls (.long y :: rest))) : W p l e R s m args below meth c H locs 0 0 Q (F0 m pc ls (.long x :: rest)) := h ▸ k
set_option maxHeartbeats 4000000 in
theorem sp_vi {post : Int32 → S → Prop} (SF : CallFix p m c cc nL s args Ts own) (hK : sp_K g s) (hA : ∀ q, s.heap.size ≤ q → A q) (hM : sp_CI l g y ws rm (.ref b :: As) wc post wS) (hG : GoodIn Ts (wsV own index C y ws)) (hw : ws = Cond.code y bytes maxL ret :: ws') (hrc : rm.cells = 0) (hrs : rm.slots = 0) (hd : y.cls = C ∧ y.cls ≠ "java/lang/invoke/MethodHandle" ∧ y.cls ≠ "java/lang/invoke/VarHandle" ∧ (parseMethodDescriptor y.desc).map (fun d => d.parameters.length) = some n) (hn : As.length = n) (hR : rm.frames + 1 ≤ R.frames ∧ 8 + (maxL + 11) + rm.locals ≤ R.locals)
    (ci q0 : Nat) {T0 : u_T} {N0 : Nat} (hc : vwCl[ci]? = some (C, T0, N0)) (he : wc[q0]? = some (b, .inr (ci, fs))) (hP : va_P g.1 vwCl (wc ++ wr) H) (hD : va_D A (wc ++ wr)) (hS : va_S A s.heap H locs) (hl : ls.size = nL) (hst : st0 = As.reverse ++ .ref b :: rest) (hcat : (rest.map fun v => v.category).sum ≤ 8) (hdg : decode cc pc = .ok (.invokevirtual index, 3))
    (kk : ∀ (r : Int32) (u : S) (H : Heap) (locs : List Loc), post r u → va_P g.1 vwCl (wS u ++ wr) H → va_D A (wS u ++ wr) → va_S A s.heap H locs → W p l e R s m args below meth c H locs 0 0 Q (F0 m (pc + 3) ls (.int r :: rest))) : W p l e R s m args below meth c H locs 0 0 Q (F0 m pc ls st0) := by
  subst hst
  have hF := sp_free hD hS hA
  refine va_calli (va_runV (As := As) (rest := rest) SF (hM H.size) (cwV n SF.2.2.2.2 hG hw hrc hrs hd hR) ⟨sp_blind, va_recv hK.1 (sp_P_l hP) hc he, sp_start hK (sp_P_l hP) (sp_D_l hD)⟩ rfl hn hl rfl (lv_room hcat) hdg ⟨Nat.zero_le _, Nat.zero_le _⟩) hS (fun q _ h => hF q h) hF (fun r u t H1 locs1 ht hvm hw1 hB hz1 hk1 hS1 => ?_)
  have hP1 := hB.1
  rw [ht] at hP1
  obtain ⟨hP2, hD2⟩ := sp_join hP hD hk1 hF hP1 hB.2
  exact kk r u H1 locs1 hw1 hP2 hD2 hS1
set_option maxHeartbeats 4000000 in
theorem sp_vv {post : S → Prop} (SF : CallFix p m c cc nL s args Ts own) (hK : sp_K g s) (hA : ∀ q, s.heap.size ≤ q → A q) (hM : sp_CV l g y ws rm (.ref b :: As) wc post wS) (hG : GoodIn Ts (wsV own index C y ws)) (hw : ws = Cond.code y bytes maxL ret :: ws') (hrc : rm.cells = 0) (hrs : rm.slots = 0) (hd : y.cls = C ∧ y.cls ≠ "java/lang/invoke/MethodHandle" ∧ y.cls ≠ "java/lang/invoke/VarHandle" ∧ (parseMethodDescriptor y.desc).map (fun d => d.parameters.length) = some n) (hn : As.length = n) (hR : rm.frames + 1 ≤ R.frames ∧ 8 + (maxL + 11) + rm.locals ≤ R.locals)
    (ci q0 : Nat) {T0 : u_T} {N0 : Nat} (hc : vwCl[ci]? = some (C, T0, N0)) (he : wc[q0]? = some (b, .inr (ci, fs))) (hP : va_P g.1 vwCl (wc ++ wr) H) (hD : va_D A (wc ++ wr)) (hS : va_S A s.heap H locs) (hl : ls.size = nL) (hst : st0 = As.reverse ++ .ref b :: rest) (hcat : (rest.map fun v => v.category).sum ≤ 8) (hdg : decode cc pc = .ok (.invokevirtual index, 3))
    (kk : ∀ (u : S) (H : Heap) (locs : List Loc), post u → va_P g.1 vwCl (wS u ++ wr) H → va_D A (wS u ++ wr) → va_S A s.heap H locs → W p l e R s m args below meth c H locs 0 0 Q (F0 m (pc + 3) ls rest)) : W p l e R s m args below meth c H locs 0 0 Q (F0 m pc ls st0) := by
  subst hst
  have hF := sp_free hD hS hA
  refine va_callv (va_runV (As := As) (rest := rest) SF (hM H.size) (cwV n SF.2.2.2.2 hG hw hrc hrs hd hR) ⟨sp_blind, va_recv hK.1 (sp_P_l hP) hc he, sp_start hK (sp_P_l hP) (sp_D_l hD)⟩ rfl hn hl rfl (lv_room hcat) hdg ⟨Nat.zero_le _, Nat.zero_le _⟩) hS (fun q _ h => hF q h) hF (fun u t H1 locs1 ht hvm hw1 hB hz1 hk1 hS1 => ?_)
  have hP1 := hB.1
  rw [ht] at hP1
  obtain ⟨hP2, hD2⟩ := sp_join hP hD hk1 hF hP1 hB.2
  exact kk u H1 locs1 hw1 hP2 hD2 hS1
set_option maxHeartbeats 4000000 in
theorem sp_si {post : Int32 → S → Prop} (SF : CallFix p m c cc nL s args Ts own) (hK : sp_K g s) (hA : ∀ q, s.heap.size ≤ q → A q) (hM : sp_CI l g y ws rm As wc post wS) (hG : GoodIn Ts (va_wsS own index y ws)) (hw : ws = Cond.code y bytes maxL ret :: ws') (hrc : rm.cells = 0) (hrs : rm.slots = 0) (hd : y.cls ≠ "java/lang/invoke/MethodHandle" ∧ y.cls ≠ "java/lang/invoke/VarHandle" ∧ (parseMethodDescriptor y.desc).map (fun d => d.parameters.length) = some n) (hn : As.length = n) (hR : rm.frames + 1 ≤ R.frames ∧ 8 + (maxL + 11) + rm.locals ≤ R.locals)
    (hP : va_P g.1 vwCl (wc ++ wr) H) (hD : va_D A (wc ++ wr)) (hS : va_S A s.heap H locs) (hl : ls.size = nL) (hst : st0 = As.reverse ++ rest) (hcat : (rest.map fun v => v.category).sum ≤ 8) (hdg : decode cc pc = .ok (.invokestatic index, 3))
    (kk : ∀ (r : Int32) (u : S) (H : Heap) (locs : List Loc), post r u → va_P g.1 vwCl (wS u ++ wr) H → va_D A (wS u ++ wr) → va_S A s.heap H locs → W p l e R s m args below meth c H locs 0 0 Q (F0 m (pc + 3) ls (.int r :: rest))) : W p l e R s m args below meth c H locs 0 0 Q (F0 m pc ls st0) := by
  subst hst
  have hF := sp_free hD hS hA
  refine va_calli (va_runS (As := As) (rest := rest) SF (hM H.size) (va_cwS n SF.2.2.2.2 hG hw hrc hrs hd hR) ⟨sp_blind, sp_start hK (sp_P_l hP) (sp_D_l hD)⟩ rfl hn hl rfl (lv_room hcat) hdg ⟨Nat.zero_le _, Nat.zero_le _⟩) hS (fun q _ h => hF q h) hF (fun r u t H1 locs1 ht hvm hw1 hB hz1 hk1 hS1 => ?_)
  have hP1 := hB.1
  rw [ht] at hP1
  obtain ⟨hP2, hD2⟩ := sp_join hP hD hk1 hF hP1 hB.2
  exact kk r u H1 locs1 hw1 hP2 hD2 hS1
set_option maxHeartbeats 4000000 in
theorem sp_sv {post : S → Prop} (SF : CallFix p m c cc nL s args Ts own) (hK : sp_K g s) (hA : ∀ q, s.heap.size ≤ q → A q) (hM : sp_CV l g y ws rm As wc post wS) (hG : GoodIn Ts (va_wsS own index y ws)) (hw : ws = Cond.code y bytes maxL ret :: ws') (hrc : rm.cells = 0) (hrs : rm.slots = 0) (hd : y.cls ≠ "java/lang/invoke/MethodHandle" ∧ y.cls ≠ "java/lang/invoke/VarHandle" ∧ (parseMethodDescriptor y.desc).map (fun d => d.parameters.length) = some n) (hn : As.length = n) (hR : rm.frames + 1 ≤ R.frames ∧ 8 + (maxL + 11) + rm.locals ≤ R.locals)
    (hP : va_P g.1 vwCl (wc ++ wr) H) (hD : va_D A (wc ++ wr)) (hS : va_S A s.heap H locs) (hl : ls.size = nL) (hst : st0 = As.reverse ++ rest) (hcat : (rest.map fun v => v.category).sum ≤ 8) (hdg : decode cc pc = .ok (.invokestatic index, 3))
    (kk : ∀ (u : S) (H : Heap) (locs : List Loc), post u → va_P g.1 vwCl (wS u ++ wr) H → va_D A (wS u ++ wr) → va_S A s.heap H locs → W p l e R s m args below meth c H locs 0 0 Q (F0 m (pc + 3) ls rest)) : W p l e R s m args below meth c H locs 0 0 Q (F0 m pc ls st0) := by
  subst hst
  have hF := sp_free hD hS hA
  refine va_callv (va_runS (As := As) (rest := rest) SF (hM H.size) (va_cwS n SF.2.2.2.2 hG hw hrc hrs hd hR) ⟨sp_blind, sp_start hK (sp_P_l hP) (sp_D_l hD)⟩ rfl hn hl rfl (lv_room hcat) hdg ⟨Nat.zero_le _, Nat.zero_le _⟩) hS (fun q _ h => hF q h) hF (fun u t H1 locs1 ht hvm hw1 hB hz1 hk1 hS1 => ?_)
  have hP1 := hB.1
  rw [ht] at hP1
  obtain ⟨hP2, hD2⟩ := sp_join hP hD hk1 hF hP1 hB.2
  exact kk u H1 locs1 hw1 hP2 hD2 hS1
set_option maxHeartbeats 4000000 in
/-- Tower calls StrikePlan.percentAt, a nest mate's -/
theorem sp_sn {post : Int32 → S → Prop} (SF : CallFix p m c cc nL s args Ts RX3) (hK : sp_K g s) (hA : ∀ q, s.heap.size ≤ q → A q) (hM : sp_CI l g yX4_percentAt ws rm As wc post wS) (hG : GoodIn Ts ws) (hw : ws = Cond.code yX4_percentAt bytes maxL ret :: ws') (hst0 : Cond.static yX4_percentAt ∈ Ts) (hin0 : Cond.initialized yX4_percentAt.cls ∈ Ts) (hrc : rm.cells = 0) (hrs : rm.slots = 0) (hd : yX4_percentAt.cls ≠ "java/lang/invoke/MethodHandle" ∧ yX4_percentAt.cls ≠ "java/lang/invoke/VarHandle" ∧ (parseMethodDescriptor yX4_percentAt.desc).map (fun d => d.parameters.length) = some n) (hn : As.length = n) (hR : rm.frames + 1 ≤ R.frames ∧ 8 + (maxL + 11) + rm.locals ≤ R.locals)
    (hP : va_P g.1 vwCl (wc ++ wr) H) (hD : va_D A (wc ++ wr)) (hS : va_S A s.heap H locs) (hl : ls.size = nL) (hst : st0 = As.reverse ++ rest) (hcat : (rest.map fun v => v.category).sum ≤ 8) (hdg : decode cc pc = .ok (.invokestatic 41, 3))
    (kk : ∀ (r : Int32) (u : S) (H : Heap) (locs : List Loc), post r u → va_P g.1 vwCl (wS u ++ wr) H → va_D A (wS u ++ wr) → va_S A s.heap H locs → W p l e R s m args below meth c H locs 0 0 Q (F0 m (pc + 3) ls (.int r :: rest))) : W p l e R s m args below meth c H locs 0 0 Q (F0 m pc ls st0) := by
  subst hst
  have hF := sp_free hD hS hA
  refine va_calli (va_runSN (As := As) (rest := rest) (host := "StrikePlan") SF (hM H.size) ⟨va_cnB n SF.2.2.2.2 hG hw hrc hrs hK.2 (SF.2.2.2.2 _ hin0) hd hR, SF.2.2.2.2 _ hst0, trivial⟩ ⟨sp_blind, sp_start hK (sp_P_l hP) (sp_D_l hD)⟩ rfl hn hl rfl (lv_room hcat) hdg ⟨Nat.zero_le _, Nat.zero_le _⟩) hS (fun q _ h => hF q h) hF (fun r u t H1 locs1 ht hvm hw1 hB hz1 hk1 hS1 => ?_)
  have hP1 := hB.1
  rw [ht] at hP1
  obtain ⟨hP2, hD2⟩ := sp_join hP hD hk1 hF hP1 hB.2
  exact kk r u H1 locs1 hw1 hP2 hD2 hS1
set_option maxHeartbeats 4000000 in
theorem sp_vi0 {post : Int32 → S → Prop} (SF : CallFix p m c cc nL s args Ts own) (hK : sp_K g s) (hA : ∀ q, s.heap.size ≤ q → A q) (hM : sp_CI l g y ws rm (.ref b :: As) wc post wS) (hG : GoodIn Ts (wsV own index C y ws)) (hw : ws = Cond.code y bytes maxL ret :: ws') (hrc : rm.cells = 0) (hrs : rm.slots = 0) (hd : y.cls = C ∧ y.cls ≠ "java/lang/invoke/MethodHandle" ∧ y.cls ≠ "java/lang/invoke/VarHandle" ∧ (parseMethodDescriptor y.desc).map (fun d => d.parameters.length) = some n) (hn : As.length = n) (hR : rm.frames + 1 ≤ R.frames ∧ 8 + (maxL + 11) + rm.locals ≤ R.locals)
    (ci q0 : Nat) {T0 : u_T} {N0 : Nat} (hc : vwCl[ci]? = some (C, T0, N0)) (he : wc[q0]? = some (b, .inr (ci, fs))) (hP : va_P g.1 vwCl wc H) (hD : va_D A wc) (hS : va_S A s.heap H locs) (hl : ls.size = nL) (hst : st0 = As.reverse ++ .ref b :: rest) (hcat : (rest.map fun v => v.category).sum ≤ 8) (hdg : decode cc pc = .ok (.invokevirtual index, 3))
    (kk : ∀ (r : Int32) (u : S) (H : Heap) (locs : List Loc), post r u → va_P g.1 vwCl (wS u) H → va_D A (wS u) → va_S A s.heap H locs → W p l e R s m args below meth c H locs 0 0 Q (F0 m (pc + 3) ls (.int r :: rest))) : W p l e R s m args below meth c H locs 0 0 Q (F0 m pc ls st0) :=
  sp_vi (wr := []) SF hK hA hM hG hw hrc hrs hd hn hR ci q0 hc he (by rw [List.append_nil]; exact hP) (by rw [List.append_nil]; exact hD) hS hl hst hcat hdg (fun r u H locs h1 h2 h3 h4 => kk r u H locs h1 (by rw [List.append_nil] at h2; exact h2) (by rw [List.append_nil] at h3; exact h3) h4)
set_option maxHeartbeats 4000000 in
theorem sp_vv0 {post : S → Prop} (SF : CallFix p m c cc nL s args Ts own) (hK : sp_K g s) (hA : ∀ q, s.heap.size ≤ q → A q) (hM : sp_CV l g y ws rm (.ref b :: As) wc post wS) (hG : GoodIn Ts (wsV own index C y ws)) (hw : ws = Cond.code y bytes maxL ret :: ws') (hrc : rm.cells = 0) (hrs : rm.slots = 0) (hd : y.cls = C ∧ y.cls ≠ "java/lang/invoke/MethodHandle" ∧ y.cls ≠ "java/lang/invoke/VarHandle" ∧ (parseMethodDescriptor y.desc).map (fun d => d.parameters.length) = some n) (hn : As.length = n) (hR : rm.frames + 1 ≤ R.frames ∧ 8 + (maxL + 11) + rm.locals ≤ R.locals)
    (ci q0 : Nat) {T0 : u_T} {N0 : Nat} (hc : vwCl[ci]? = some (C, T0, N0)) (he : wc[q0]? = some (b, .inr (ci, fs))) (hP : va_P g.1 vwCl wc H) (hD : va_D A wc) (hS : va_S A s.heap H locs) (hl : ls.size = nL) (hst : st0 = As.reverse ++ .ref b :: rest) (hcat : (rest.map fun v => v.category).sum ≤ 8) (hdg : decode cc pc = .ok (.invokevirtual index, 3))
    (kk : ∀ (u : S) (H : Heap) (locs : List Loc), post u → va_P g.1 vwCl (wS u) H → va_D A (wS u) → va_S A s.heap H locs → W p l e R s m args below meth c H locs 0 0 Q (F0 m (pc + 3) ls rest)) : W p l e R s m args below meth c H locs 0 0 Q (F0 m pc ls st0) :=
  sp_vv (wr := []) SF hK hA hM hG hw hrc hrs hd hn hR ci q0 hc he (by rw [List.append_nil]; exact hP) (by rw [List.append_nil]; exact hD) hS hl hst hcat hdg (fun u H locs h1 h2 h3 h4 => kk u H locs h1 (by rw [List.append_nil] at h2; exact h2) (by rw [List.append_nil] at h3; exact h3) h4)
end SPC
end
section
/-! ===== what a tower is, and what is done with it ===== -/
/-- a loop: the step at k, k + 1 .., n times -/
def lp {σ : Type} (f : Nat → σ → σ) : Nat → Nat → σ → σ
  | 0, _, s => s
  | n + 1, k, s => lp f n (k + 1) (f k s)
/-- DAY, FLOORS, WEIGHT, MOST, TABLE, RULE; poured, SLOW, LOAD of each; PROPS as a set -/
abbrev sp_T : Type := Nat × Nat × Nat × Nat × Nat × Nat × (Nat → Nat) × (Nat → Nat) × (Nat → Int32) × Nat
def td (t : sp_T) : Nat := t.1
def tn (t : sp_T) : Nat := t.2.1
def tw (t : sp_T) : Nat := t.2.2.1
def tm (t : sp_T) : Nat := t.2.2.2.1
def tt (t : sp_T) : Nat := t.2.2.2.2.1
def tr (t : sp_T) : Nat := t.2.2.2.2.2.1
def tpo (t : sp_T) : Nat → Nat := t.2.2.2.2.2.2.1
def tsl (t : sp_T) : Nat → Nat := t.2.2.2.2.2.2.2.1
def tlo (t : sp_T) : Nat → Int32 := t.2.2.2.2.2.2.2.2.1
def tpr (t : sp_T) : Nat := t.2.2.2.2.2.2.2.2.2
def sp_setd (t : sp_T) (d : Nat) : sp_T := (d, t.2)
def sp_setlo (t : sp_T) (lo : Nat → Int32) : sp_T := (td t, tn t, tw t, tm t, tt t, tr t, tpo t, tsl t, lo, tpr t)
def sp_setpr (t : sp_T) (pr : Nat) : sp_T := (td t, tn t, tw t, tm t, tt t, tr t, tpo t, tsl t, tlo t, pr)
def sp_setsl (t : sp_T) (sl : Nat → Nat) : sp_T := (td t, tn t, tw t, tm t, tt t, tr t, tpo t, sl, tlo t, tpr t)
def updN (f : Nat → Nat) (k x : Nat) : Nat → Nat := fun j => if j = k then x else f j
def sp_age (t : sp_T) (k : Nat) : Nat := td t - tpo t k
def sp_rip (t : sp_T) (k : Nat) : Nat := sp_age t k * (10 - tsl t k) / 10
/-- how often r can be halved until it is 1, f times at most -/
def sp_hv : Nat → Nat → Nat
  | 0, _ => 0
  | f + 1, r => if 1 < r then 1 + sp_hv f (r / 2) else 0
def sp_pct (tb r : Nat) : Nat := if tb = 0 then 100 * r / (r + 4) else if tb = 1 then (if 10 ≤ r then 100 else 10 * r) else if r = 0 then 0 else 20 + 20 * sp_hv 4 r
def sp_str (t : sp_T) (k : Nat) : Nat := tm t * sp_pct (tt t) (sp_rip t k) / 100
def sp_pp (t : sp_T) (k : Nat) : Bool := (tpr t).testBit k
def lowF (pr : Nat → Bool) : Nat → Nat
  | 0 => 0
  | k + 1 => if pr (k + 1) then lowF pr k else k + 1
def hiF (pr : Nat → Bool) : Nat → Nat → Nat
  | 0, i => i
  | m + 1, i => if pr (i + 1) then hiF pr m (i + 1) else i
def sp_low (t : sp_T) (i : Nat) : Nat := lowF (sp_pp t) i
def sp_hi (t : sp_T) (i : Nat) : Nat := hiF (sp_pp t) (tn t - 1 - i) i
def sp_gr (t : sp_T) (i : Nat) : Bool := decide (sp_low t i = 0) && sp_pp t 0
def sp_frs (t : sp_T) (k : Nat) (a : Int32) : Int32 := a + (nI (tw t) - tlo t k)
def sp_frc (t : sp_T) (i : Nat) : Int32 := if sp_pp t i then lp (sp_frs t) (sp_hi t i + 1 - i) i 0 else 0
def sp_wks (t : sp_T) (k : Nat) (a : Int32) : Int32 := if nI (sp_str t k) < tlo t k then a ||| (nI 1 <<< (nI k &&& 31)) else a
def sp_wk (t : sp_T) : Int32 := lp (sp_wks t) (tn t) 0 0
def sp_safe (t : sp_T) : Bool := decide (sp_wk t = 0)
def sp_exs (t : sp_T) (k : Nat) (a : Int32) : Int32 := if a < tlo t k - nI (sp_str t k) then tlo t k - nI (sp_str t k) else a
def sp_exc (t : sp_T) : Int32 := lp (sp_exs t) (tn t - 1) 1 (tlo t 0 - nI (sp_str t 0))
/-- what is shared -/
def sp_prt (t : sp_T) (k : Nat) : Nat := if tr t = 0 then (if sp_age t k = 0 then 0 else 1) else if tr t = 1 then sp_str t k else sp_age t k
def sp_als (P : Nat → Nat) (k a : Nat) : Nat := a + P k
def sp_al0 (t : sp_T) (lo hi : Nat) : Nat := lp (sp_als (sp_prt t)) (hi + 1 - lo) lo 0
def sp_P (t : sp_T) (lo hi : Nat) : Nat → Nat := if sp_al0 t lo hi = 0 then fun _ => 1 else sp_prt t
def sp_al (t : sp_T) (lo hi : Nat) : Nat := if sp_al0 t lo hi = 0 then hi + 1 - lo else sp_al0 t lo hi
def sp_got (q : Int32) (P al : Nat) : Int32 := ((q.toInt64 * lN P) / lN al).toInt32
def sp_s1 (q : Int32) (P : Nat → Nat) (al : Nat) (k : Nat) (s : (Nat → Int32) × Int32) : (Nat → Int32) × Int32 := (upd s.1 k (s.1 k + sp_got q (P k) al), s.2 - sp_got q (P k) al)
def sp_sg (x : Int32) : Int32 := if x < 0 then -1 else 1
def sp_s2 (P : Nat → Nat) (k : Nat) (s : (Nat → Int32) × Int32) : (Nat → Int32) × Int32 := if s.2 = 0 ∨ P k = 0 then s else (upd s.1 k (s.1 k + sp_sg s.2), s.2 - sp_sg s.2)
def sp_sh1 (t : sp_T) (lo hi : Nat) (q : Int32) : (Nat → Int32) × Int32 := lp (sp_s1 q (sp_P t lo hi) (sp_al t lo hi)) (hi + 1 - lo) lo (tlo t, q)
def sp_sh2 (t : sp_T) (lo hi : Nat) (q : Int32) : (Nat → Int32) × Int32 := lp (sp_s2 (sp_P t lo hi)) (hi + 1 - lo) lo (sp_sh1 t lo hi q)
def sp_shr (t : sp_T) (i : Nat) (q : Int32) : sp_T := if sp_gr t i then t else sp_setlo t (sp_sh2 t (sp_low t i) (sp_hi t i) q).1
/-- poured, struck, put back -/
def sp_new (t : sp_T) : sp_T := (td t, tn t + 1, tw t, tm t, tt t, tr t, updN (tpo t) (tn t) (td t), updN (tsl t) (tn t) 0, upd (tlo t) (tn t) (nI 0), tpr t ||| 2 ^ tn t)
def sp_pour (t : sp_T) : sp_T := sp_shr (sp_new t) (tn t) (nI (tw t))
def sp_off (t : sp_T) (i : Nat) : sp_T := sp_setpr t (tpr t &&& (255 - 2 ^ i))
def sp_on (t : sp_T) (i : Nat) : sp_T := sp_setpr t (tpr t ||| 2 ^ i)
def sp_stk1 (t : sp_T) (i : Nat) : sp_T := sp_shr (sp_off t i) i (sp_frc t i)
def sp_stk (t : sp_T) (i : Nat) : sp_T := if i = 0 then sp_stk1 t i else sp_shr (sp_stk1 t i) (i - 1) (-(sp_frc t i))
def sp_clr (t : sp_T) : sp_T := (0, 0, tw t, tm t, tt t, tr t, tpo t, tsl t, tlo t, 0)
/-- what holds of every tower -/
def sp_I (t : sp_T) : Prop := tn t ≤ 8 ∧ td t ≤ 200000 ∧ tw t ≤ 50 ∧ tm t ≤ 400 ∧ tt t ≤ 2 ∧ tr t ≤ 2 ∧ (∀ k, k < tn t → tpo t k ≤ td t ∧ tsl t k ≤ 9) ∧ tpr t < 2 ^ tn t
theorem sp_I.n {t : sp_T} (h : sp_I t) : tn t ≤ 8 := h.1
theorem sp_I.d {t : sp_T} (h : sp_I t) : td t ≤ 200000 := h.2.1
theorem sp_I.w {t : sp_T} (h : sp_I t) : tw t ≤ 50 := h.2.2.1
theorem sp_I.m {t : sp_T} (h : sp_I t) : tm t ≤ 400 := h.2.2.2.1
theorem sp_I.t {t : sp_T} (h : sp_I t) : tt t ≤ 2 := h.2.2.2.2.1
theorem sp_I.r {t : sp_T} (h : sp_I t) : tr t ≤ 2 := h.2.2.2.2.2.1
theorem sp_I.po {t : sp_T} (h : sp_I t) {k : Nat} (hk : k < tn t) : tpo t k ≤ td t := (h.2.2.2.2.2.2.1 k hk).1
theorem sp_I.sl {t : sp_T} (h : sp_I t) {k : Nat} (hk : k < tn t) : tsl t k ≤ 9 := (h.2.2.2.2.2.2.1 k hk).2
theorem sp_I.pr {t : sp_T} (h : sp_I t) : tpr t < 2 ^ tn t := h.2.2.2.2.2.2.2
theorem sp_I.pr8 {t : sp_T} (h : sp_I t) : tpr t < 256 := Nat.lt_of_lt_of_le h.pr (Nat.pow_le_pow_right (by decide) h.n)
/-- the class's tower: bounds, pouredOn, slowness, load, part; day, count, props -/
abbrev sp_U : Type := (Nat → Int32) × (Nat → Int32) × (Nat → Int32) × (Nat → Int32) × (Nat → Int32) × Int32 × Int32 × Int32
abbrev sp_A : Type := Nat × Nat × Nat × Nat × Nat × Nat
def twW (g : sp_G) (a : sp_A) (u : sp_U) : va_W := [(a.1, .inr (3, [.ref a.2.1, .ref a.2.2.1, .ref a.2.2.2.1, .ref a.2.2.2.2.1, .ref a.2.2.2.2.2, .int u.2.2.2.2.2.1, .int u.2.2.2.2.2.2.1, .int u.2.2.2.2.2.2.2])), (a.2.1, .inl (g.2.1, 4, .inl u.1)), (a.2.2.1, .inl (g.2.1, 8, .inl u.2.1)), (a.2.2.2.1, .inl (g.2.1, 8, .inl u.2.2.1)), (a.2.2.2.2.1, .inl (g.2.1, 8, .inl u.2.2.2.1)), (a.2.2.2.2.2, .inl (g.2.1, 8, .inl u.2.2.2.2.1))]
def sp_R (u : sp_U) (t : sp_T) : Prop := (u.1 0 = nI (tw t) ∧ u.1 1 = nI (tm t) ∧ u.1 2 = nI (tt t) ∧ u.1 3 = nI (tr t)) ∧ (∀ k, k < tn t → u.2.1 k = nI (tpo t k)) ∧ (∀ k, k < tn t → u.2.2.1 k = nI (tsl t k)) ∧ (∀ k, k < tn t → u.2.2.2.1 k = tlo t k) ∧ u.2.2.2.2.2.1 = nI (td t) ∧ u.2.2.2.2.2.2.1 = nI (tn t) ∧ u.2.2.2.2.2.2.2 = nI (tpr t)
theorem sp_R.b0 {u : sp_U} {t : sp_T} (h : sp_R u t) : u.1 0 = nI (tw t) := h.1.1
theorem sp_R.b1 {u : sp_U} {t : sp_T} (h : sp_R u t) : u.1 1 = nI (tm t) := h.1.2.1
theorem sp_R.b2 {u : sp_U} {t : sp_T} (h : sp_R u t) : u.1 2 = nI (tt t) := h.1.2.2.1
theorem sp_R.b3 {u : sp_U} {t : sp_T} (h : sp_R u t) : u.1 3 = nI (tr t) := h.1.2.2.2
theorem sp_c8 {k : Nat} (h : k < 2 ^ 31) : (nI k).toNatClampNeg = k := nI_clamp h
theorem sp_R.po {u : sp_U} {t : sp_T} (h : sp_R u t) {k : Nat} (hk : k < tn t) : u.2.1 k = nI (tpo t k) := h.2.1 k hk
theorem sp_R.sl {u : sp_U} {t : sp_T} (h : sp_R u t) {k : Nat} (hk : k < tn t) : u.2.2.1 k = nI (tsl t k) := h.2.2.1 k hk
theorem sp_R.lo {u : sp_U} {t : sp_T} (h : sp_R u t) {k : Nat} (hk : k < tn t) : u.2.2.2.1 k = tlo t k := h.2.2.2.1 k hk
theorem sp_R.day {u : sp_U} {t : sp_T} (h : sp_R u t) : u.2.2.2.2.2.1 = nI (td t) := h.2.2.2.2.1
theorem sp_R.cnt {u : sp_U} {t : sp_T} (h : sp_R u t) : u.2.2.2.2.2.2.1 = nI (tn t) := h.2.2.2.2.2.1
theorem sp_R.prp {u : sp_U} {t : sp_T} (h : sp_R u t) : u.2.2.2.2.2.2.2 = nI (tpr t) := h.2.2.2.2.2.2
/-! small numbers -/
theorem sp_sub {a b : Nat} (h : b ≤ a) : nI a - nI b = nI (a - b) := by
  have e : nI a = nI (a - b) + nI b := by rw [nI_add, Nat.sub_add_cancel h]
  rw [e, Int32.add_sub_cancel]
theorem sp_mul (a b : Nat) : nI a * nI b = nI (a * b) := by
  show Int32.ofNat a * Int32.ofNat b = Int32.ofNat (a * b)
  rw [Int32.ofNat_mul]
theorem sp_toInt {a : Nat} (h : a < 2 ^ 31) : (nI a).toInt = (a : Int) := nI_toInt h
theorem sp_div {a b : Nat} (ha : a < 2 ^ 31) (hb : b < 2 ^ 31) (h0 : 0 < b) : nI a / nI b = nI (a / b) := by
  apply Int32.toInt_inj.mp
  have hq : a / b < 2 ^ 31 := Nat.lt_of_le_of_lt (Nat.div_le_self a b) ha
  rw [Int32.toInt_div_of_ne_right _ _ (by
    intro hc
    have := congrArg Int32.toInt hc
    rw [sp_toInt hb] at this
    have h1 : (-1 : Int32).toInt = -1 := by decide
    omega), sp_toInt ha, sp_toInt hb, sp_toInt hq]
  rw [Int.tdiv_eq_ediv_of_nonneg (by omega)]
  rfl
theorem sp_ne {a : Nat} (h0 : 0 < a) (h : a < 2 ^ 31) : ¬ nI a = 0 := nI_ne0 h0 h
theorem sp_b0 {b : Bool} : bI b = 0 ↔ b = false := by cases b <;> decide
theorem sp_b0n {b : Bool} : ¬ bI b = 0 ↔ b = true := by cases b <;> decide
theorem sp_z_eq {a : Nat} (h : a < 2 ^ 31) : nI a = 0 ↔ a = 0 := by rw [← nI_0]; exact nI_eq h (by decide)
theorem sp_z_le {a : Nat} (h : a < 2 ^ 31) : nI a ≤ 0 ↔ a = 0 := by rw [← nI_0, nI_leI h (by decide)]; omega
theorem sp_z_gt {a : Nat} (h : a < 2 ^ 31) : 0 < nI a ↔ 0 < a := by rw [← nI_0]; exact nI_ltI (by decide) h
theorem sp_z_lt {a : Nat} (h : a < 2 ^ 31) : nI a < 0 ↔ a < 0 := by rw [← nI_0]; exact nI_ltI h (by decide)
theorem sp_z_ge {a : Nat} (h : a < 2 ^ 31) : 0 ≤ nI a ↔ 0 ≤ a := by rw [← nI_0]; exact nI_leI (by decide) h
theorem sp_dec (k : Nat) : nI (k + 1) + (-1) = nI k := by
  rw [← nI_pred k]; exact (Int32.sub_eq_add_neg _ _).symm
theorem lp_step {σ : Type} (f : Nat → σ → σ) {N k : Nat} (h : k < N) (x : σ) : lp f (N - k) k x = lp f (N - (k + 1)) (k + 1) (f k x) := by
  rw [show N - k = (N - (k + 1)) + 1 by omega]; rfl
theorem lp_end {σ : Type} (f : Nat → σ → σ) {N k : Nat} (h : N ≤ k) (x : σ) : lp f (N - k) k x = x := by
  rw [show N - k = 0 by omega]; rfl
def sp_has (x : Int32) (n : Nat) : Bool := decide (0 ≤ x.toInt ∧ x.toInt < n)
theorem sp_has_iff {x : Int32} {n : Nat} : sp_has x n = true ↔ vp_in x n := by rw [sp_has, decide_eq_true_eq, vp_in_iff]
theorem sp_has_t {x : Int32} {n : Nat} (h : sp_has x n = true) (hn : n ≤ 8) : ∃ j : Nat, j < n ∧ x = nI j := vp_in_of (sp_has_iff.mp h) (by omega)
theorem sp_has_n {j n : Nat} (hn : n ≤ 8) (h : j < n) : sp_has (nI j) n = true := sp_has_iff.mpr (vp_in_nI h (by omega))
theorem sp_in1 {x : Int32} {n : Nat} (h : x < 0) : false = sp_has x n := by
  refine (Bool.eq_false_iff.mpr fun q => ?_).symm
  exact (sp_has_iff.mp q) (Or.inl h)
theorem sp_in2 {x : Int32} {n : Nat} (hn : n ≤ 8) (h : nI n ≤ x) : false = sp_has x n := by
  refine (Bool.eq_false_iff.mpr fun q => ?_).symm
  obtain ⟨j, hj, rfl⟩ := sp_has_t q hn
  exact absurd ((nI_leI (by omega) (by omega)).mp h) (by omega)
theorem sp_in3 {x : Int32} {n : Nat} (hn : n ≤ 8) (h1 : ¬ x < 0) (h2 : ¬ nI n ≤ x) : true = sp_has x n := by
  refine (sp_has_iff.mpr ?_).symm
  obtain ⟨j, hj, rfl⟩ := nI_of h1
  exact vp_in_nI (Nat.not_le.mp fun q => h2 ((nI_leI (by omega) hj).mpr q)) (by omega)
theorem sp_hv_step {f r : Nat} (hf : 0 < f) (hr : 1 < r) : sp_hv f r = 1 + sp_hv (f - 1) (r / 2) := by
  obtain ⟨k, rfl⟩ : ∃ k, f = k + 1 := ⟨f - 1, by omega⟩
  simp [sp_hv, hr]
theorem sp_hv_end {f r : Nat} (hr : ¬ 1 < r) : sp_hv f r = 0 := by
  cases f <;> simp [sp_hv, hr]
theorem sp_hv_le (f r : Nat) : sp_hv f r ≤ f := by
  induction f generalizing r with
  | zero => simp [sp_hv]
  | succ f ih => simp only [sp_hv]; split
                 · have := ih (r / 2); omega
                 · omega
theorem sp_pct_le (tb r : Nat) : sp_pct tb r ≤ 100 := by
  unfold sp_pct
  split
  · exact Nat.div_le_of_le_mul (by omega)
  · split
    · split <;> omega
    · split
      · omega
      · have := sp_hv_le 4 r; omega
theorem sp_pct0 {r : Nat} (h : r ≤ 2000000) : ((lN 100 * lN r) / (lN r + lN 4)).toInt32 = nI (sp_pct 0 r) := by
  have hq : 100 * r / (r + 4) ≤ 100 := Nat.div_le_of_le_mul (by omega)
  rw [lN_mul, lN_add]
  have e : lN (100 * r) / lN (r + 4) = lN (100 * r / (r + 4)) := by
    apply Int64.toInt_inj.mp
    rw [Int64.toInt_div_of_ne_right _ _ (by
      intro hc
      have := congrArg Int64.toInt hc
      rw [lN_toInt (by omega)] at this
      have h1 : (-1 : Int64).toInt = -1 := by decide
      omega), lN_toInt (by omega), lN_toInt (by omega), lN_toInt (by omega), Int.tdiv_eq_ediv_of_nonneg (by omega)]
    rfl
  rw [e, lN_i]; rfl
theorem sp_lne {a : Nat} (h0 : 0 < a) (h : a < 2 ^ 31) : ¬ lN a = 0 := by
  intro hc
  have := congrArg Int64.toInt hc
  rw [lN_toInt h] at this
  have h1 : (0 : Int64).toInt = 0 := by decide
  omega
theorem sp_age_le {t : sp_T} (hI : sp_I t) (k : Nat) : sp_age t k ≤ 200000 := Nat.le_trans (Nat.sub_le _ _) hI.d
theorem sp_rip_le {t : sp_T} (hI : sp_I t) (k : Nat) : sp_rip t k ≤ 200000 := by
  have h := sp_age_le hI k
  unfold sp_rip
  refine Nat.div_le_of_le_mul ?_
  calc sp_age t k * (10 - tsl t k) ≤ 200000 * 10 := Nat.mul_le_mul h (by omega)
    _ = 10 * 200000 := by omega
theorem sp_str_le {t : sp_T} (hI : sp_I t) (k : Nat) : sp_str t k ≤ 400 := by
  unfold sp_str
  refine Nat.div_le_of_le_mul ?_
  calc tm t * sp_pct (tt t) (sp_rip t k) ≤ 400 * 100 := Nat.mul_le_mul hI.m (sp_pct_le _ _)
    _ = 100 * 400 := by omega
theorem lowF_le (pr : Nat → Bool) (i : Nat) : lowF pr i ≤ i := by
  induction i with
  | zero => exact Nat.le_refl _
  | succ k ih => simp only [lowF]; split <;> omega
theorem hiF_ge (pr : Nat → Bool) (m i : Nat) : i ≤ hiF pr m i ∧ hiF pr m i ≤ i + m := by
  induction m generalizing i with
  | zero => simp [hiF]
  | succ m ih => simp only [hiF]; split
                 · have := ih (i + 1); omega
                 · omega
theorem sp_low_le (t : sp_T) (i : Nat) : sp_low t i ≤ i := lowF_le _ i
theorem sp_le_hi (t : sp_T) (i : Nat) : i ≤ sp_hi t i := (hiF_ge _ _ i).1
theorem sp_hi_lt {t : sp_T} {i : Nat} (h : i < tn t) : sp_hi t i < tn t := by
  have := (hiF_ge (sp_pp t) (tn t - 1 - i) i).2
  unfold sp_hi
  omega
theorem sp_hi_step {t : sp_T} {k : Nat} (h : k + 1 < tn t) (hp : sp_pp t (k + 1) = true) : sp_hi t k = sp_hi t (k + 1) := by
  unfold sp_hi
  rw [show tn t - 1 - k = (tn t - 1 - (k + 1)) + 1 by omega]
  simp only [hiF, hp, if_true]
theorem sp_hi_end {t : sp_T} {k : Nat} (h : tn t ≤ k + 1 ∨ sp_pp t (k + 1) = false) : sp_hi t k = k := by
  unfold sp_hi
  rcases Nat.lt_or_ge (k + 1) (tn t) with h1 | h1
  · rw [show tn t - 1 - k = (tn t - 1 - (k + 1)) + 1 by omega]
    rcases h with h | h
    · omega
    · simp [hiF, h]
  · rw [show tn t - 1 - k = 0 by omega]; rfl
/-- the lowest floor under which props stand; FLOORS: none -/
def lpF (pr : Nat → Bool) : Nat → Nat → Nat
  | 0, k => k
  | n + 1, k => if pr k then k else lpF pr n (k + 1)
def sp_lop (t : sp_T) : Nat := lpF (sp_pp t) (tn t) 0
theorem lpF_end {pr : Nat → Bool} {N k : Nat} (h : N ≤ k) : lpF pr (N - k) k = k := by rw [show N - k = 0 by omega]; rfl
theorem lpF_step {pr : Nat → Bool} {N k : Nat} (h : k < N) (hp : pr k = false) : lpF pr (N - k) k = lpF pr (N - (k + 1)) (k + 1) := by
  rw [show N - k = (N - (k + 1)) + 1 by omega]; simp [lpF, hp]
theorem lpF_hit {pr : Nat → Bool} {N k : Nat} (h : k < N) (hp : pr k = true) : lpF pr (N - k) k = k := by
  rw [show N - k = (N - (k + 1)) + 1 by omega]; simp [lpF, hp]
theorem sp_cmp {a : Nat} (h : a < 2 ^ 31) : 0 < lg_cmp (lN a) (lN 0) ↔ 0 < a := by
  unfold lg_cmp
  rcases Nat.eq_zero_or_pos a with h0 | h0
  · subst h0; simp
  · have : lN a > lN 0 := (lN_lt (by omega) h).mpr h0
    simp [this, h0]
theorem sp_wks_t {t : sp_T} {k : Nat} {z : Int32} (h : nI (sp_str t k) < tlo t k) : sp_wks t k z = z ||| (nI 1 <<< (nI k &&& 31)) := by unfold sp_wks; rw [if_pos h]
theorem sp_wks_f {t : sp_T} {k : Nat} {z : Int32} (h : ¬ nI (sp_str t k) < tlo t k) : sp_wks t k z = z := by unfold sp_wks; rw [if_neg h]
end
section
/-! ===== sets of floors: numbers below 256 ===== -/
theorem sp_bits : ∀ a, a < 256 → ∀ i, i < 8 → ((nI a >>> (nI i &&& 31)) &&& nI 1 = nI 1 ↔ a.testBit i = true) := by decide +kernel
theorem sp_bit1 {a i : Nat} (ha : a < 256) (hi : i < 8) (h : (nI a >>> (nI i &&& 31)) &&& nI 1 = nI 1) : a.testBit i = true := (sp_bits a ha i hi).mp h
theorem sp_bit0 {a i : Nat} (ha : a < 256) (hi : i < 8) (h : ¬ (nI a >>> (nI i &&& 31)) &&& nI 1 = nI 1) : a.testBit i = false := Bool.eq_false_iff.mpr fun q => h ((sp_bits a ha i hi).mpr q)
theorem sp_bor : ∀ a, a < 256 → ∀ i, i < 8 → nI a ||| (nI 1 <<< (nI i &&& 31)) = nI (a ||| 2 ^ i) := by decide +kernel
theorem sp_boff : ∀ a, a < 256 → ∀ i, i < 8 → nI a &&& ((nI 1 <<< (nI i &&& 31)) ^^^ (-1)) = nI (a &&& (255 - 2 ^ i)) := by decide +kernel
theorem sp_toff : ∀ a, a < 256 → ∀ i, i < 8 → ∀ j, j < 8 → (a &&& (255 - 2 ^ i)).testBit j = (a.testBit j && !decide (j = i)) := by decide +kernel
theorem sp_ton (a i j : Nat) : (a ||| 2 ^ i).testBit j = (a.testBit j || decide (i = j)) := by rw [Nat.testBit_or, Nat.testBit_two_pow]
theorem sp_bitn {a n j : Nat} (h : a < 2 ^ n) (hj : n ≤ j) : a.testBit j = false := Nat.testBit_lt_two_pow (Nat.lt_of_lt_of_le h (Nat.pow_le_pow_right (by decide) hj))
end
section
/-! ===== sharing: what is left over after the parts is given out in one round ===== -/
def sm (f : Nat → Nat) : Nat → Nat → Nat
  | 0, _ => 0
  | n + 1, k => f k + sm f n (k + 1)
theorem lp_als (P : Nat → Nat) (n k a : Nat) : lp (sp_als P) n k a = a + sm P n k := by
  induction n generalizing k a with
  | zero => rfl
  | succ n ih => simp only [lp, sm, ih, sp_als]; omega
theorem sm_mono {f h : Nat → Nat} (n k : Nat) (hf : ∀ j, f j ≤ h j) : sm f n k ≤ sm h n k := by
  induction n generalizing k with
  | zero => exact Nat.le_refl _
  | succ n ih => exact Nat.add_le_add (hf k) (ih (k + 1))
theorem sm_mul (c : Nat) (f : Nat → Nat) (n k : Nat) : sm (fun j => c * f j) n k = c * sm f n k := by
  induction n generalizing k with
  | zero => rfl
  | succ n ih => simp only [sm, ih, Nat.mul_add]
theorem sm_add (f h : Nat → Nat) (n k : Nat) : sm (fun j => f j + h j) n k = sm f n k + sm h n k := by
  induction n generalizing k with
  | zero => rfl
  | succ n ih => simp only [sm, ih]; omega
def sp_cf (P : Nat → Nat) (j : Nat) : Nat := if P j = 0 then 0 else 1
theorem sp_cf_0 {P : Nat → Nat} {j : Nat} (h : P j = 0) : sp_cf P j = 0 := by simp [sp_cf, h]
theorem sp_cf_1 {P : Nat → Nat} {j : Nat} (h : ¬ P j = 0) : sp_cf P j = 1 := by simp [sp_cf, h]
def sp_gN (N al : Nat) (P : Nat → Nat) (j : Nat) : Nat := N * P j / al
theorem sp_cnt1 {N al : Nat} (P : Nat → Nat) (n k : Nat) : al * sm (sp_gN N al P) n k + sm (fun j => N * P j % al) n k = N * sm P n k := by
  rw [← sm_mul, ← sm_add, ← sm_mul]
  congr 1
  funext j
  exact Nat.div_add_mod _ _
theorem sp_cnt2 {N al : Nat} (h0 : 0 < al) (P : Nat → Nat) (n k : Nat) : sm (fun j => N * P j % al) n k ≤ al * sm (sp_cf P) n k := by
  rw [← sm_mul]
  refine sm_mono n k fun j => ?_
  unfold sp_cf
  split
  · rename_i h; rw [h]; simp
  · have := Nat.mod_lt (N * P j) h0; omega
theorem sp_cnt3 {N al : Nat} (h0 : 0 < al) {P : Nat → Nat} {n k : Nat} (hal : sm P n k = al) : sm (sp_gN N al P) n k ≤ N ∧ N ≤ sm (sp_gN N al P) n k + sm (sp_cf P) n k := by
  have h1 := sp_cnt1 (N := N) (al := al) P n k
  have h2 := sp_cnt2 (N := N) h0 P n k
  rw [hal] at h1
  constructor
  · refine Nat.le_of_mul_le_mul_left (c := al) ?_ h0
    rw [Nat.mul_comm al N]; omega
  · refine Nat.le_of_mul_le_mul_left (c := al) ?_ h0
    rw [Nat.mul_comm al N, Nat.mul_add]; omega
theorem sp_bm {x : Int} (h1 : -(2 ^ 31) ≤ x) (h2 : x < 2 ^ 31) : x.bmod (2 ^ 32) = x := Int.bmod_eq_of_le (by omega) (by omega)
theorem sp_bm64 {x : Int} (h1 : -(2 ^ 63) ≤ x) (h2 : x < 2 ^ 63) : x.bmod (2 ^ 64) = x := Int.bmod_eq_of_le (by omega) (by omega)
/-- what a floor gets, as a number: its sign, and how much -/
theorem sp_got_int {q : Int32} {N P al : Nat} {g : Int} (hg : g = 1 ∨ g = -1) (hq : q.toInt = g * N) (h0 : 0 < al) (hal : al ≤ 2 ^ 24) (hP : P ≤ al) : (sp_got q P al).toInt = g * ((N * P / al : Nat) : Int) := by
  have hlo := q.le_toInt
  have hhi := q.toInt_lt
  have hN : N ≤ 2 ^ 31 := by rcases hg with rfl | rfl <;> omega
  have hNP : N * P ≤ 2 ^ 31 * 2 ^ 24 := Nat.mul_le_mul hN (by omega)
  have hv : N * P / al ≤ N := Nat.div_le_of_le_mul (by rw [Nat.mul_comm al N]; exact Nat.mul_le_mul_left N hP)
  have e1 : (q.toInt64 * lN P).toInt = g * ((N * P : Nat) : Int) := by
    rw [Int64.toInt_mul, Int32.toInt_toInt64, lN_toInt (by omega), hq, Int.mul_assoc, ← Int.natCast_mul]
    exact sp_bm64 (by rcases hg with rfl | rfl <;> omega) (by rcases hg with rfl | rfl <;> omega)
  have e2 : ((q.toInt64 * lN P) / lN al).toInt = g * ((N * P / al : Nat) : Int) := by
    rw [Int64.toInt_div_of_ne_right _ _ (by
      intro hc
      have := congrArg Int64.toInt hc
      rw [lN_toInt (by omega)] at this
      have h1 : (-1 : Int64).toInt = -1 := by decide
      omega), e1, lN_toInt (by omega)]
    rcases hg with rfl | rfl
    · rw [Int.one_mul, Int.one_mul]; exact (Int.ofNat_tdiv _ _).symm
    · rw [Int.neg_mul, Int.one_mul, Int.neg_tdiv, Int.neg_mul, Int.one_mul]; first | done | rfl | congr 1
  unfold sp_got
  rw [Int64.toInt_toInt32, e2]
  clear e1 e2
  generalize N * P / al = v at hv ⊢
  refine sp_bm ?_ ?_
  · rcases hg with rfl | rfl <;> omega
  · rcases hg with rfl | rfl <;> omega
theorem sp_left {q : Int32} {P : Nat → Nat} {al N : Nat} {g : Int} (hg : g = 1 ∨ g = -1) (hq : q.toInt = g * N) (h0 : 0 < al) (hal : al ≤ 2 ^ 24) (n k : Nat) (hP : ∀ j, k ≤ j → j < k + n → P j ≤ al) (f : Nat → Int32) (x : Int32) (M : Nat) (hx : x.toInt = g * M) (hM : sm (sp_gN N al P) n k ≤ M) (hMN : M ≤ N) :
    (lp (sp_s1 q P al) n k (f, x)).2.toInt = g * ((M - sm (sp_gN N al P) n k : Nat) : Int) := by
  have hlo := q.le_toInt
  have hhi := q.toInt_lt
  have hN : N ≤ 2 ^ 31 := by rcases hg with rfl | rfl <;> omega
  induction n generalizing k f x M with
  | zero => simpa [lp, sm] using hx
  | succ n ih =>
    simp only [lp, sp_s1]
    have hgt := sp_got_int (P := P k) hg hq h0 hal (hP k (Nat.le_refl _) (by omega))
    have hM' : sp_gN N al P k + sm (sp_gN N al P) n (k + 1) ≤ M := hM
    have hgk : N * P k / al = sp_gN N al P k := rfl
    rw [ih (k + 1) (fun j h1 h2 => hP j (by omega) (by omega)) _ _ (M - sp_gN N al P k) ?_ (by omega) (by omega)]
    · simp only [sm]; congr 2; omega
    · rw [Int32.toInt_sub, hx, hgt, hgk]
      rw [sp_bm]
      · rcases hg with rfl | rfl <;> omega
      · rcases hg with rfl | rfl <;> omega
      · rcases hg with rfl | rfl <;> omega
theorem sp_sg_int {x : Int32} {M : Nat} {g : Int} (hg : g = 1 ∨ g = -1) (hx : x.toInt = g * M) (hM : 0 < M) : (sp_sg x).toInt = g := by
  unfold sp_sg
  have h1 : (-1 : Int32).toInt = -1 := by decide
  have h2 : (1 : Int32).toInt = 1 := by decide
  have h3 : (0 : Int32).toInt = 0 := by decide
  rcases hg with rfl | rfl
  · rw [if_neg (by rw [Int32.lt_iff_toInt_lt, h3]; omega)]; exact h2
  · rw [if_pos (by rw [Int32.lt_iff_toInt_lt, h3]; omega)]; exact h1
theorem sp_s2_0 (P : Nat → Nat) (n k : Nat) (f : Nat → Int32) : lp (sp_s2 P) n k (f, 0) = (f, 0) := by
  induction n generalizing k with
  | zero => rfl
  | succ n ih =>
    have : sp_s2 P k (f, 0) = (f, 0) := by simp [sp_s2]
    simp only [lp, this, ih]
theorem sp_s2_end {P : Nat → Nat} {g : Int} (hg : g = 1 ∨ g = -1) (n k : Nat) (f : Nat → Int32) (x : Int32) (M : Nat) (hx : x.toInt = g * M) (hM : M ≤ sm (sp_cf P) n k) (hM2 : M ≤ 2 ^ 31) : (lp (sp_s2 P) n k (f, x)).2 = 0 := by
  have h3 : (0 : Int32).toInt = 0 := by decide
  induction n generalizing k f x M with
  | zero =>
    simp only [sm] at hM
    apply Int32.toInt_inj.mp
    simp only [lp]
    rw [hx, show M = 0 by omega, h3]; simp
  | succ n ih =>
    simp only [lp]
    have hM' : M ≤ sp_cf P k + sm (sp_cf P) n (k + 1) := hM
    by_cases hz : x = 0
    · subst hz
      have : sp_s2 P k (f, 0) = (f, 0) := by simp [sp_s2]
      rw [this, sp_s2_0]
    · have hMp : 0 < M := by
        rcases Nat.eq_zero_or_pos M with h | h
        · exact absurd (Int32.toInt_inj.mp (by rw [hx, h, h3]; simp)) hz
        · exact h
      by_cases hp : P k = 0
      · have : sp_s2 P k (f, x) = (f, x) := by simp [sp_s2, hp]
        rw [this]
        exact ih (k + 1) f x M hx (by rw [sp_cf_0 hp] at hM'; omega) hM2
      · have : sp_s2 P k (f, x) = (upd f k (f k + sp_sg x), x - sp_sg x) := by simp [sp_s2, hz, hp]
        rw [this]
        refine ih (k + 1) _ _ (M - 1) ?_ (by rw [sp_cf_1 hp] at hM'; omega) (by omega)
        have hlo := x.le_toInt
        have hhi := x.toInt_lt
        rw [Int32.toInt_sub, sp_sg_int hg hx hMp, hx, sp_bm]
        · rcases hg with rfl | rfl <;> omega
        · rcases hg with rfl | rfl <;> omega
        · rcases hg with rfl | rfl <;> omega
/-- one round is enough -/
theorem sp_share_end (q : Int32) {P : Nat → Nat} {al n k : Nat} (h0 : 0 < al) (hal : al ≤ 2 ^ 24) (hs : sm P n k = al) (hP : ∀ j, k ≤ j → j < k + n → P j ≤ al) (f : Nat → Int32) : (lp (sp_s2 P) n k (lp (sp_s1 q P al) n k (f, q))).2 = 0 := by
  have hlo := q.le_toInt
  have hhi := q.toInt_lt
  obtain ⟨g, N, hg, hq⟩ : ∃ (g : Int) (N : Nat), (g = 1 ∨ g = -1) ∧ q.toInt = g * N := by
    rcases Int.le_total 0 q.toInt with h | h
    · exact ⟨1, q.toInt.toNat, Or.inl rfl, by omega⟩
    · exact ⟨-1, (-q.toInt).toNat, Or.inr rfl, by omega⟩
  have hN : N ≤ 2 ^ 31 := by rcases hg with rfl | rfl <;> omega
  obtain ⟨c1, c2⟩ := sp_cnt3 (N := N) h0 hs
  have hl := sp_left hg hq h0 hal n k hP f q N hq c1 (Nat.le_refl _)
  generalize lp (sp_s1 q P al) n k (f, q) = r at hl ⊢
  obtain ⟨f', x⟩ := r
  exact sp_s2_end hg n k f' x _ hl (by omega) (by omega)
/-- the sign stays till nothing is left -/
theorem sp_sg_step {x : Int32} (h : ¬ x = 0) : x - sp_sg x = 0 ∨ sp_sg (x - sp_sg x) = sp_sg x := by
  have h1 : (-1 : Int32).toInt = -1 := by decide
  have h2 : (1 : Int32).toInt = 1 := by decide
  have h3 : (0 : Int32).toInt = 0 := by decide
  have hlo := x.le_toInt
  have hhi := x.toInt_lt
  have hne : x.toInt ≠ 0 := fun q => h (Int32.toInt_inj.mp (by rw [q, h3]))
  by_cases hx : x < 0
  · have hxi := Int32.lt_iff_toInt_lt.mp hx
    rw [h3] at hxi
    have hs : sp_sg x = -1 := by simp [sp_sg, hx]
    rw [hs]
    have e : (x - -1).toInt = x.toInt + 1 := by rw [Int32.toInt_sub, h1, sp_bm] <;> omega
    by_cases hz : x.toInt = -1
    · exact Or.inl (Int32.toInt_inj.mp (by rw [e, h3]; omega))
    · refine Or.inr ?_
      unfold sp_sg
      rw [if_pos (Int32.lt_iff_toInt_lt.mpr (by rw [e, h3]; omega))]
  · have hxi : 0 ≤ x.toInt := by
      rcases Int.lt_or_le x.toInt 0 with q | q
      · exact absurd (Int32.lt_iff_toInt_lt.mpr (by rw [h3]; exact q)) hx
      · exact q
    have hs : sp_sg x = 1 := by simp [sp_sg, hx]
    rw [hs]
    have e : (x - 1).toInt = x.toInt - 1 := by rw [Int32.toInt_sub, h2, sp_bm] <;> omega
    by_cases hz : x.toInt = 1
    · exact Or.inl (Int32.toInt_inj.mp (by rw [e, h3]; omega))
    · refine Or.inr ?_
      unfold sp_sg
      rw [if_neg (fun q => by have := Int32.lt_iff_toInt_lt.mp q; rw [e, h3] at this; omega)]
/-- only the floors that there are matter -/
theorem lp_s1_cong {n : Nat} (q : Int32) (P : Nat → Nat) (al : Nat) (m k : Nat) (h : k + m ≤ n) (f f' : Nat → Int32) (x : Int32) (hf : ∀ j, j < n → f j = f' j) : (∀ j, j < n → (lp (sp_s1 q P al) m k (f, x)).1 j = (lp (sp_s1 q P al) m k (f', x)).1 j) ∧ (lp (sp_s1 q P al) m k (f, x)).2 = (lp (sp_s1 q P al) m k (f', x)).2 := by
  induction m generalizing k f f' x with
  | zero => exact ⟨hf, rfl⟩
  | succ m ih =>
    simp only [lp, sp_s1]
    refine ih (k + 1) (by omega) _ _ _ (fun j hj => ?_)
    unfold upd
    rw [hf k (by omega), hf j hj]
theorem lp_s2_cong {n : Nat} (P : Nat → Nat) (m k : Nat) (h : k + m ≤ n) (f f' : Nat → Int32) (x : Int32) (hf : ∀ j, j < n → f j = f' j) : (∀ j, j < n → (lp (sp_s2 P) m k (f, x)).1 j = (lp (sp_s2 P) m k (f', x)).1 j) ∧ (lp (sp_s2 P) m k (f, x)).2 = (lp (sp_s2 P) m k (f', x)).2 := by
  induction m generalizing k f f' x with
  | zero => exact ⟨hf, rfl⟩
  | succ m ih =>
    simp only [lp]
    by_cases hc : x = 0 ∨ P k = 0
    · have e1 : sp_s2 P k (f, x) = (f, x) := by simp [sp_s2, hc]
      have e2 : sp_s2 P k (f', x) = (f', x) := by simp [sp_s2, hc]
      rw [e1, e2]
      exact ih (k + 1) (by omega) _ _ _ hf
    · have e1 : sp_s2 P k (f, x) = (upd f k (f k + sp_sg x), x - sp_sg x) := by simp only [sp_s2]; rw [if_neg hc]
      have e2 : sp_s2 P k (f', x) = (upd f' k (f' k + sp_sg x), x - sp_sg x) := by simp only [sp_s2]; rw [if_neg hc]
      rw [e1, e2]
      refine ih (k + 1) (by omega) _ _ _ (fun j hj => ?_)
      unfold upd
      rw [hf k (by omega), hf j hj]
/-- parts that the loops read alike -/
theorem lp_s1_P {q : Int32} {P P' : Nat → Nat} {al m k : Nat} (h : ∀ j, k ≤ j → j < k + m → P j = P' j) (s : (Nat → Int32) × Int32) : lp (sp_s1 q P al) m k s = lp (sp_s1 q P' al) m k s := by
  induction m generalizing k s with
  | zero => show s = s; rfl
  | succ m ih =>
    have e : sp_s1 q P al k s = sp_s1 q P' al k s := by unfold sp_s1; rw [h k (Nat.le_refl _) (by omega)]
    show lp (sp_s1 q P al) m (k + 1) (sp_s1 q P al k s) = lp (sp_s1 q P' al) m (k + 1) (sp_s1 q P' al k s)
    rw [e]
    exact ih (fun j h1 h2 => h j (by omega) (by omega)) _
theorem lp_s2_P {P P' : Nat → Nat} {m k : Nat} (h : ∀ j, k ≤ j → j < k + m → P j = P' j) (s : (Nat → Int32) × Int32) : lp (sp_s2 P) m k s = lp (sp_s2 P') m k s := by
  induction m generalizing k s with
  | zero => show s = s; rfl
  | succ m ih =>
    simp only [lp]
    rw [show sp_s2 P k s = sp_s2 P' k s by simp only [sp_s2]; rw [h k (Nat.le_refl _) (by omega)]]
    exact ih (fun j h1 h2 => h j (by omega) (by omega)) _
end
section
/-! ===== sharing, as the class does it ===== -/
def arW (g : sp_G) (a : Nat) (f : Nat → Int32) : va_W := [(a, .inl (g.2.1, 8, .inl f))]
def twH (g : sp_G) (a : sp_A) (u : sp_U) : va_W := [(a.1, .inr (3, [.ref a.2.1, .ref a.2.2.1, .ref a.2.2.2.1, .ref a.2.2.2.2.1, .ref a.2.2.2.2.2, .int u.2.2.2.2.2.1, .int u.2.2.2.2.2.2.1, .int u.2.2.2.2.2.2.2])), (a.2.1, .inl (g.2.1, 4, .inl u.1)), (a.2.2.1, .inl (g.2.1, 8, .inl u.2.1)), (a.2.2.2.1, .inl (g.2.1, 8, .inl u.2.2.1)), (a.2.2.2.2.1, .inl (g.2.1, 8, .inl u.2.2.2.1))]
theorem sp_s2_p0 {P : Nat → Nat} {k : Nat} {s : (Nat → Int32) × Int32} (h : P k = 0) : sp_s2 P k s = s := by unfold sp_s2; rw [if_pos (Or.inr h)]
theorem sp_s2_p1 {P : Nat → Nat} {k : Nat} {f : Nat → Int32} {x y : Int32} (h : ¬ P k = 0) (hx : ¬ x = 0) (hs : sp_sg x = y) : sp_s2 P k (f, x) = (upd f k (f k + y), x - y) := by
  subst hs
  unfold sp_s2
  rw [if_neg (fun q => q.elim hx h)]
theorem sp_sg_t {q : Int32} (h : 0 ≤ q) : nI 1 = sp_sg q := by
  unfold sp_sg; rw [if_neg (Int32.not_lt.mpr h)]; rfl
theorem sp_sg_f {q : Int32} (h : ¬ 0 ≤ q) : (-1 : Int32) = sp_sg q := by
  unfold sp_sg; rw [if_pos (Int32.not_le.mp h)]
theorem sp_prt_le {t : sp_T} (hI : sp_I t) (k : Nat) : sp_prt t k ≤ 200000 := by
  have h1 := sp_age_le hI k
  have h2 := sp_str_le hI k
  unfold sp_prt
  split
  · split <;> omega
  · split <;> omega
theorem sp_prt_1 {t : sp_T} {k : Nat} (h : tr t = 1) : sp_str t k = sp_prt t k := by unfold sp_prt; rw [h]; rfl
theorem sp_prt_2 {t : sp_T} {k : Nat} (h : tr t = 2) : sp_age t k = sp_prt t k := by unfold sp_prt; rw [h]; rfl
theorem sp_prt_0 {t : sp_T} (hI : sp_I t) {k : Nat} (h1 : ¬ tr t = 1) (h2 : ¬ tr t = 2) : (if nI 1 < nI (sp_age t k) then nI 1 else nI (sp_age t k)) = nI (sp_prt t k) := by
  have ha := sp_age_le hI k
  have hr := hI.r
  have h0 : tr t = 0 := by omega
  unfold sp_prt
  rw [if_pos h0]
  by_cases hz : 1 < sp_age t k
  · rw [if_pos ((nI_ltI (by omega) (by omega)).mpr hz), if_neg (by omega)]
  · rw [if_neg (mt (nI_ltI (by omega) (by omega)).mp hz)]
    by_cases hy : sp_age t k = 0
    · rw [if_pos hy, hy]
    · rw [if_neg hy, show sp_age t k = 1 by omega]
theorem sp_P_le {t : sp_T} (hI : sp_I t) (lo hi k : Nat) : sp_P t lo hi k ≤ 200000 := by
  unfold sp_P
  split
  · show 1 ≤ 200000; omega
  · exact sp_prt_le hI k
theorem sm_bd {f : Nat → Nat} {B : Nat} (h : ∀ j, f j ≤ B) (n k : Nat) : sm f n k ≤ B * n := by
  induction n generalizing k with
  | zero => exact Nat.le_refl _
  | succ n ih =>
    have h1 := h k
    have h2 := ih (k + 1)
    simp only [sm, Nat.mul_add, Nat.mul_one]
    omega
theorem sm_ge {f : Nat → Nat} (n k j : Nat) (h1 : k ≤ j) (h2 : j < k + n) : f j ≤ sm f n k := by
  induction n generalizing k with
  | zero => omega
  | succ n ih =>
    simp only [sm]
    rcases Nat.eq_or_lt_of_le h1 with h | h
    · subst h; omega
    · have := ih (k + 1) h (by omega); omega
theorem sm_one (n k : Nat) : sm (fun _ => 1) n k = n := by
  induction n generalizing k with
  | zero => rfl
  | succ n ih => simp only [sm, ih]; omega
theorem sp_al0_eq (t : sp_T) (lo hi : Nat) : sp_al0 t lo hi = sm (sp_prt t) (hi + 1 - lo) lo := by unfold sp_al0; rw [lp_als]; omega
theorem sp_al0_le {t : sp_T} (hI : sp_I t) {lo hi : Nat} (h : hi < 8) : sp_al0 t lo hi ≤ 1600000 := by
  rw [sp_al0_eq]
  refine Nat.le_trans (sm_bd (sp_prt_le hI) _ _) ?_
  omega
/-- the parts and their sum -/
theorem sp_al_sum (t : sp_T) (lo hi : Nat) : sm (sp_P t lo hi) (hi + 1 - lo) lo = sp_al t lo hi := by
  unfold sp_P sp_al
  split
  · exact sm_one _ _
  · exact (sp_al0_eq t lo hi).symm
theorem sp_al_pos {t : sp_T} {lo hi : Nat} (h : lo ≤ hi) : 0 < sp_al t lo hi := by
  unfold sp_al
  split <;> omega
theorem sp_al_le {t : sp_T} (hI : sp_I t) {lo hi : Nat} (h : hi < 8) : sp_al t lo hi ≤ 1600000 := by
  have := sp_al0_le hI (lo := lo) h
  unfold sp_al
  split <;> omega
theorem sp_P_al (t : sp_T) {lo hi j : Nat} (h1 : lo ≤ j) (h2 : j ≤ hi) : sp_P t lo hi j ≤ sp_al t lo hi := by
  rw [← sp_al_sum]; exact sm_ge _ _ _ h1 (by omega)
theorem sp_R_shr {u : sp_U} {t : sp_T} (hR : sp_R u t) {i : Nat} (hi : i < tn t) {q : Int32} (hgr : sp_gr t i = false) {f pf : Nat → Int32} {x : Int32} (hfx : (f, x) = lp (sp_s1 q (sp_P t (sp_low t i) (sp_hi t i)) (sp_al t (sp_low t i) (sp_hi t i))) (sp_hi t i + 1 - sp_low t i) (sp_low t i) (u.2.2.2.1, q)) :
    sp_R (u.1, u.2.1, u.2.2.1, (lp (sp_s2 (sp_P t (sp_low t i) (sp_hi t i))) (sp_hi t i + 1 - sp_low t i) (sp_low t i) (f, x)).1, pf, u.2.2.2.2.2.1, u.2.2.2.2.2.2.1, u.2.2.2.2.2.2.2) (sp_shr t i q) := by
  have h1 := sp_low_le t i
  have h2 := sp_le_hi t i
  have h3 := sp_hi_lt hi
  obtain ⟨c1, c2, c3, c4, c5⟩ := hR
  have e : sp_shr t i q = sp_setlo t (sp_sh2 t (sp_low t i) (sp_hi t i) q).1 := by unfold sp_shr; rw [hgr]; rfl
  rw [e]
  refine ⟨c1, c2, c3, fun k hk => ?_, c5⟩
  show (lp (sp_s2 (sp_P t (sp_low t i) (sp_hi t i))) (sp_hi t i + 1 - sp_low t i) (sp_low t i) (f, x)).1 k = (sp_sh2 t (sp_low t i) (sp_hi t i) q).1 k
  rw [hfx]
  unfold sp_sh2 sp_sh1
  have g1 := lp_s1_cong (n := tn t) q (sp_P t (sp_low t i) (sp_hi t i)) (sp_al t (sp_low t i) (sp_hi t i)) (sp_hi t i + 1 - sp_low t i) (sp_low t i) (by omega) u.2.2.2.1 (tlo t) q c4
  generalize lp (sp_s1 q (sp_P t (sp_low t i) (sp_hi t i)) (sp_al t (sp_low t i) (sp_hi t i))) (sp_hi t i + 1 - sp_low t i) (sp_low t i) (u.2.2.2.1, q) = r1 at g1 ⊢
  generalize lp (sp_s1 q (sp_P t (sp_low t i) (sp_hi t i)) (sp_al t (sp_low t i) (sp_hi t i))) (sp_hi t i + 1 - sp_low t i) (sp_low t i) (tlo t, q) = r2 at g1 ⊢
  obtain ⟨f1, x1⟩ := r1
  obtain ⟨f2, x2⟩ := r2
  have ex : x1 = x2 := g1.2
  subst ex
  exact (lp_s2_cong (n := tn t) _ _ _ (by omega) f1 f2 x1 g1.1).1 k hk
theorem sp_mx {lo hi : Nat} (h1 : lo ≤ hi) (h2 : hi < 8) : (if nI 1 < nI (hi - lo + 1) then nI (hi - lo + 1) else nI 1) = nI (hi + 1 - lo) := by
  by_cases h : 1 < hi - lo + 1
  · rw [if_pos ((nI_ltI (by omega) (by omega)).mpr h)]; congr 1; omega
  · rw [if_neg (mt (nI_ltI (by omega) (by omega)).mp h)]; congr 1; omega
theorem sp_gr_f1 {t : sp_T} {i : Nat} (h : ¬ sp_low t i = 0) : sp_gr t i = false := by unfold sp_gr; rw [decide_eq_false h]; rfl
theorem sp_gr_f2 {t : sp_T} {i : Nat} (h : sp_pp t 0 = false) : sp_gr t i = false := by unfold sp_gr; rw [h, Bool.and_false]
theorem sp_gr_t {t : sp_T} {i : Nat} (h : sp_low t i = 0) (h2 : sp_pp t 0 = true) : sp_gr t i = true := by unfold sp_gr; rw [decide_eq_true h, h2]; rfl
theorem sp_upd_s {f : Nat → Int32} {k : Nat} {x : Int32} : upd f k x k = x := by simp [upd]
theorem sp_upd_n {f : Nat → Int32} {k j : Nat} {x : Int32} (h : j ≠ k) : upd f k x j = f j := by simp [upd, h]
theorem sp_upd_ext {h F : Nat → Int32} {lo k : Nat} {x : Int32} (hh : ∀ j, lo ≤ j → j < k → h j = F j) (hx : x = F k) : ∀ j, lo ≤ j → j < k + 1 → upd h k x j = F j := by
  intro j h1 h2
  unfold upd
  by_cases hz : j = k
  · rw [if_pos hz, hz]; exact hx
  · rw [if_neg hz]; exact hh j h1 (by omega)
theorem sp_upd_ext0 {h F : Nat → Int32} {k : Nat} {x : Int32} (hh : ∀ j, j < k → h j = F j) (hx : x = F k) : ∀ j, j < k + 1 → upd h k x j = F j := fun j hj => sp_upd_ext (lo := 0) (fun j _ h => hh j h) hx j (Nat.zero_le _) hj
/-- poured: the new floor ahead of the sharing -/
theorem sp_I_new {t : sp_T} (hI : sp_I t) (h : tn t < 8) : sp_I (sp_new t) := by
  obtain ⟨h1, h2, h3, h4, h5, h6, h7, h8⟩ := hI
  refine ⟨h, h2, h3, h4, h5, h6, fun k hk => ?_, ?_⟩
  · show updN (tpo t) (tn t) (td t) k ≤ td t ∧ updN (tsl t) (tn t) 0 k ≤ 9
    unfold updN
    by_cases hz : k = tn t
    · rw [if_pos hz, if_pos hz]; omega
    · rw [if_neg hz, if_neg hz]
      exact h7 k (by have : k < tn t + 1 := hk; omega)
  · show tpr t ||| 2 ^ tn t < 2 ^ (tn t + 1)
    exact Nat.or_lt_two_pow (Nat.lt_trans h8 (Nat.pow_lt_pow_right (by decide) (by omega))) (Nat.pow_lt_pow_right (by decide) (by omega))
theorem sp_I_lo {t : sp_T} (hI : sp_I t) (lo : Nat → Int32) : sp_I (sp_setlo t lo) := hI
theorem sp_I_shr {t : sp_T} (hI : sp_I t) (i : Nat) (q : Int32) : sp_I (sp_shr t i q) := by
  unfold sp_shr; split
  · exact hI
  · exact hI
theorem sp_I_off {t : sp_T} (hI : sp_I t) (i : Nat) : sp_I (sp_off t i) := by
  obtain ⟨h1, h2, h3, h4, h5, h6, h7, h8⟩ := hI
  exact ⟨h1, h2, h3, h4, h5, h6, h7, Nat.lt_of_le_of_lt Nat.and_le_left h8⟩
theorem sp_I_on {t : sp_T} (hI : sp_I t) {i : Nat} (h : i < tn t) : sp_I (sp_on t i) := by
  obtain ⟨h1, h2, h3, h4, h5, h6, h7, h8⟩ := hI
  exact ⟨h1, h2, h3, h4, h5, h6, h7, Nat.or_lt_two_pow h8 (Nat.pow_lt_pow_right (by decide) h)⟩
theorem sp_shr_n (t : sp_T) (i : Nat) (q : Int32) : tn (sp_shr t i q) = tn t := by unfold sp_shr; split <;> rfl
theorem sp_I_pour {t : sp_T} (hI : sp_I t) (h : tn t < 8) : sp_I (sp_pour t) := sp_I_shr (sp_I_new hI h) _ _
theorem sp_I_stk1 {t : sp_T} (hI : sp_I t) (i : Nat) : sp_I (sp_stk1 t i) := sp_I_shr (sp_I_off hI i) _ _
theorem sp_I_stk {t : sp_T} (hI : sp_I t) (i : Nat) : sp_I (sp_stk t i) := by
  unfold sp_stk; split
  · exact sp_I_stk1 hI i
  · exact sp_I_shr (sp_I_stk1 hI i) _ _
theorem sp_R_new {u : sp_U} {t : sp_T} (hR : sp_R u t) (hI : sp_I t) : sp_R (u.1, upd u.2.1 (tn t) (nI (td t)), upd u.2.2.1 (tn t) (nI 0), upd u.2.2.2.1 (tn t) (nI 0), u.2.2.2.2.1, u.2.2.2.2.2.1, nI (tn t + 1), nI (tpr t ||| 2 ^ tn t)) (sp_new t) := by
  obtain ⟨c1, c2, c3, c4, c5, c6, c7⟩ := hR
  refine ⟨c1, fun k hk => ?_, fun k hk => ?_, fun k hk => ?_, c5, rfl, rfl⟩
  · show upd u.2.1 (tn t) (nI (td t)) k = nI (updN (tpo t) (tn t) (td t) k)
    unfold upd updN
    by_cases hz : k = tn t
    · rw [if_pos hz, if_pos hz]
    · rw [if_neg hz, if_neg hz]; exact c2 k (by have : k < tn t + 1 := hk; omega)
  · show upd u.2.2.1 (tn t) (nI 0) k = nI (updN (tsl t) (tn t) 0 k)
    unfold upd updN
    by_cases hz : k = tn t
    · rw [if_pos hz, if_pos hz]
    · rw [if_neg hz, if_neg hz]; exact c3 k (by have : k < tn t + 1 := hk; omega)
  · show upd u.2.2.2.1 (tn t) (nI 0) k = upd (tlo t) (tn t) (nI 0) k
    unfold upd
    by_cases hz : k = tn t
    · rw [if_pos hz, if_pos hz]
    · rw [if_neg hz, if_neg hz]; exact c4 k (by have : k < tn t + 1 := hk; omega)
theorem sp_R_pr {u : sp_U} {t : sp_T} (hR : sp_R u t) (pr : Nat) : sp_R (u.1, u.2.1, u.2.2.1, u.2.2.2.1, u.2.2.2.2.1, u.2.2.2.2.2.1, u.2.2.2.2.2.2.1, nI pr) (sp_setpr t pr) := by
  obtain ⟨c1, c2, c3, c4, c5, c6, c7⟩ := hR
  exact ⟨c1, c2, c3, c4, c5, c6, rfl⟩
theorem sp_R_d {u : sp_U} {t : sp_T} (hR : sp_R u t) (d : Nat) : sp_R (u.1, u.2.1, u.2.2.1, u.2.2.2.1, u.2.2.2.2.1, nI d, u.2.2.2.2.2.2.1, u.2.2.2.2.2.2.2) (sp_setd t d) := by
  obtain ⟨c1, c2, c3, c4, c5, c6, c7⟩ := hR
  exact ⟨c1, c2, c3, c4, rfl, c6, c7⟩
theorem sp_R_clr {u : sp_U} {t : sp_T} (hR : sp_R u t) : sp_R (u.1, u.2.1, u.2.2.1, u.2.2.2.1, u.2.2.2.2.1, nI 0, nI 0, nI 0) (sp_clr t) := by
  obtain ⟨c1, c2, c3, c4, c5, c6, c7⟩ := hR
  exact ⟨c1, fun k hk => absurd hk (Nat.not_lt_zero k), fun k hk => absurd hk (Nat.not_lt_zero k), fun k hk => absurd hk (Nat.not_lt_zero k), rfl, rfl, rfl⟩
theorem sp_I_clr {t : sp_T} (hI : sp_I t) : sp_I (sp_clr t) := by
  obtain ⟨h1, h2, h3, h4, h5, h6, h7, h8⟩ := hI
  exact ⟨Nat.zero_le _, Nat.zero_le _, h3, h4, h5, h6, fun k hk => absurd hk (Nat.not_lt_zero k), (by decide : (0 : Nat) < 2 ^ 0)⟩
end
section
set_option maxHeartbeats 4000000 in
set_option maxRecDepth 100000 in
/-- percentAt -/
theorem c_X4_percentAt (l : Launch) (g : sp_G) (tb r : Nat) (htb : tb ≤ 2) (hr : r ≤ 2000000) : sp_CI l g yX4_percentAt wsX4_percentAt ({ frames := 0, cells := 0, slots := 0, locals := 0 }) [.int (nI tb), .int (nI r)] ([]) (fun z (_ : Unit) => z = nI (sp_pct tb r)) (fun _ => []) := by
  refine sp_CI.of (cc := cX4_percentAt) (maxL := 5) (by decide) rfl (Nat.le_of_ble_eq_true rfl) ?_
  intro p e s m below meth c Q A ls SF hK hP hD hA hl hend
  have hx := SF.1
  have hb := SF.2.1
  have hown : s.vm.findClass RX4 = some m.cls := SF.2.2.2.1
  have hts := SF.2.2.2.2
  have hS : va_S A s.heap s.heap [] := va_S.rf
  have hl : lv_has ls 5 [(0, .int (nI tb)), (1, .int (nI r))] := hl
  refine lv_iload_n hx hb dX4_percentAt_0 rfl (lv_at hl 1 rfl) ?_
  refine lv_if_gt (tgt := 6) hx hb dX4_percentAt_1 (by decide) (fun c1 => ?_) (fun c1 => ?_)
  · have c1 := (sp_z_gt (by omega)).mp c1
    refine lv_iload_n hx hb dX4_percentAt_6 rfl (lv_at hl 0 rfl) ?_
    rcases (show tb = 0 ∨ tb = 1 ∨ tb = 2 by omega) with rfl | rfl | rfl
    · refine lv_lookup (off := 25) (tgt := 32) hx hb dX4_percentAt_7 (by decide) (by decide) (by decide) ?_
      refine lv_ldc2 (v := lN 100) hx hb hown (hts _ (List.mem_of_getElem? (i := 1) rfl)) dX4_percentAt_32 ?_
      refine lv_iload_n hx hb dX4_percentAt_35 rfl (lv_at hl 1 rfl) ?_
      refine lv_i2l (v := lN r) hx hb dX4_percentAt_36 (nI_l (by omega)) ?_
      refine lv_lmul hx hb dX4_percentAt_37 ?_
      refine lv_iload_n hx hb dX4_percentAt_38 rfl (lv_at hl 1 rfl) ?_
      refine lv_i2l (v := lN r) hx hb dX4_percentAt_39 (nI_l (by omega)) ?_
      refine lv_ldc2 (v := lN 4) hx hb hown (hts _ (List.mem_of_getElem? (i := 2) rfl)) dX4_percentAt_40 ?_
      refine lv_ladd hx hb dX4_percentAt_43 ?_
      refine lv_ldiv hx hb dX4_percentAt_44 (by rw [lN_add]; exact sp_lne (by omega) (by omega)) ?_
      refine lv_l2i (v := (((lN 100) * (lN r)) / ((lN r) + (lN 4))).toInt32) hx hb dX4_percentAt_45 (rfl) ?_
      refine sp_top (y := nI (sp_pct 0 r)) (sp_pct0 hr) ?_
      exact hend _ _ _ _ _ () dX4_percentAt_46 (rfl) hP hD hS
    · refine lv_lookup (off := 40) (tgt := 47) hx hb dX4_percentAt_7 (by decide) (by decide) (by decide) ?_
      refine lv_iload_n hx hb dX4_percentAt_47 rfl (lv_at hl 1 rfl) ?_
      refine lv_bipush (v := nI 10) hx hb dX4_percentAt_48 (by decide) ?_
      refine lv_icmp_lt (tgt := 58) hx hb dX4_percentAt_50 (by decide) (fun c2 => ?_) (fun c2 => ?_)
      · have c2 := (nI_ltI (by omega) (by omega)).mp c2
        refine lv_bipush (v := nI 10) hx hb dX4_percentAt_58 (by decide) ?_
        refine lv_iload_n hx hb dX4_percentAt_60 rfl (lv_at hl 1 rfl) ?_
        refine lv_imul hx hb dX4_percentAt_61 ?_
        refine sp_top (y := nI (10 * r)) (sp_mul _ _) ?_
        exact hend _ _ _ _ _ () dX4_percentAt_62 (by unfold sp_pct; simp only [show ¬ (1 : Nat) = 0 by omega, if_false, if_true]; split <;> first | rfl | omega) hP hD hS
      · have c2 := mt (nI_ltI (by omega) (by omega)).mpr c2
        refine lv_bipush (v := nI 100) hx hb dX4_percentAt_53 (by decide) ?_
        refine lv_goto (tgt := 62) hx hb dX4_percentAt_55 (by decide) ?_
        exact hend _ _ _ _ _ () dX4_percentAt_62 (by unfold sp_pct; simp only [show ¬ (1 : Nat) = 0 by omega, if_false, if_true]; split <;> first | rfl | omega) hP hD hS
    · refine lv_lookup (off := 56) (tgt := 63) hx hb dX4_percentAt_7 (by decide) (by decide) (by decide) ?_
      refine lv_bipush (v := nI 20) hx hb dX4_percentAt_63 (by decide) ?_
      refine lv_istore_n (lv' := [(2, .int (nI 20)), (0, .int (nI 2)), (1, .int (nI r))]) hx hb dX4_percentAt_65 rfl hl (by decide) rfl (fun ls hl => ?_)
      refine lv_iload_n hx hb dX4_percentAt_66 rfl (lv_at hl 2 rfl) ?_
      refine lv_istore_n (lv' := [(3, .int (nI r)), (2, .int (nI 20)), (0, .int (nI 2)), (1, .int (nI r))]) hx hb dX4_percentAt_67 rfl hl (by decide) rfl (fun ls hl => ?_)
      refine lv_iconst (v := nI 0) hx hb dX4_percentAt_68 (by decide) ?_
      refine lv_istore (lv' := [(4, .int (nI 0)), (3, .int (nI r)), (2, .int (nI 20)), (0, .int (nI 2)), (1, .int (nI r))]) hx hb dX4_percentAt_69 hl (by decide) rfl (fun ls hl => ?_)
      have hloop71 : ∀ (n71 : Nat) (j : Nat) (v : Nat) (rs : Nat) (H : Heap) (locs : List Loc) (ls : Array Slot), (j ≤ 4) → (rs ≤ 2000000) → (v + 20 * sp_hv (4 - j) rs = 20 + 20 * sp_hv 4 r) → (v ≤ 20 + 20 * j) → 4 - j < n71 → va_P g.1 vwCl ([]) H → va_D A ([]) → va_S A s.heap H locs → lv_has ls 5 [(0, .int (nI 2)), (1, .int (nI r)), (2, .int (nI v)), (3, .int (nI rs)), (4, .int (nI j))] → W p l e ({ frames := 0, cells := 0, slots := 0, locals := 0 }) s m ([.int (nI 2), .int (nI r)] : List Value).toArray below meth c H locs 0 0 Q (F0 m 71 ls []) := by
        intro n71
        induction n71 with
        | zero =>
          intro j v rs H locs ls hj hrs hv hv2 h9
          exact absurd h9 (Nat.not_lt_zero _)
        | succ n71 ih71 =>
          intro j v rs H locs ls hj hrs hv hv2 hm71 hP hD hS hl
          refine lv_iload hx hb dX4_percentAt_71 (lv_at hl 4 rfl) ?_
          refine lv_iconst (v := nI 4) hx hb dX4_percentAt_73 (by decide) ?_
          refine lv_icmp_ge (tgt := 95) hx hb dX4_percentAt_74 (by decide) (fun c3 => ?_) (fun c3 => ?_)
          · have c3 := (nI_leI (by omega) (by omega)).mp c3
            refine lv_iload_n hx hb dX4_percentAt_95 rfl (lv_at hl 2 rfl) ?_
            exact hend _ _ _ _ _ () dX4_percentAt_96 (by first | (rw [sp_hv_end (by omega)] at hv; unfold sp_pct; rw [if_neg (by omega), if_neg (by omega), if_neg (by omega), ← hv]; first | done | rfl) | (rw [show 4 - j = 0 by omega] at hv; unfold sp_pct; rw [if_neg (by omega), if_neg (by omega), if_neg (by omega), ← hv]; first | done | rfl)) hP hD hS
          · have c3 := mt (nI_leI (by omega) (by omega)).mpr c3
            refine lv_iload_n hx hb dX4_percentAt_77 rfl (lv_at hl 3 rfl) ?_
            refine lv_iconst (v := nI 1) hx hb dX4_percentAt_78 (by decide) ?_
            refine lv_icmp_le (tgt := 95) hx hb dX4_percentAt_79 (by decide) (fun c4 => ?_) (fun c4 => ?_)
            · have c4 := (nI_leI (by omega) (by omega)).mp c4
              refine lv_iload_n hx hb dX4_percentAt_95 rfl (lv_at hl 2 rfl) ?_
              exact hend _ _ _ _ _ () dX4_percentAt_96 (by first | (rw [sp_hv_end (by omega)] at hv; unfold sp_pct; rw [if_neg (by omega), if_neg (by omega), if_neg (by omega), ← hv]; first | done | rfl) | (rw [show 4 - j = 0 by omega] at hv; unfold sp_pct; rw [if_neg (by omega), if_neg (by omega), if_neg (by omega), ← hv]; first | done | rfl)) hP hD hS
            · have c4 := mt (nI_leI (by omega) (by omega)).mpr c4
              have c4 : 1 < rs := by omega
              refine lv_iload_n hx hb dX4_percentAt_82 rfl (lv_at hl 3 rfl) ?_
              refine lv_iconst (v := nI 2) hx hb dX4_percentAt_83 (by decide) ?_
              refine lv_idiv hx hb dX4_percentAt_84 (sp_ne (by omega) (by omega)) ?_
              refine sp_top (y := nI (rs / 2)) (sp_div (by omega) (by omega) (by omega)) ?_
              refine lv_istore_n (lv' := [(3, .int (nI (rs / 2))), (0, .int (nI 2)), (1, .int (nI r)), (2, .int (nI v)), (4, .int (nI j))]) hx hb dX4_percentAt_85 rfl hl (by decide) rfl (fun ls hl => ?_)
              refine lv_iinc (v := nI (v + 20)) (lv' := [(2, .int (nI (v + 20))), (3, .int (nI (rs / 2))), (0, .int (nI 2)), (1, .int (nI r)), (4, .int (nI j))]) hx hb dX4_percentAt_86 hl (k := 3) rfl (nI_add v 20) (by decide) rfl (fun ls hl => ?_)
              refine lv_iinc (v := nI (j + 1)) (lv' := [(4, .int (nI (j + 1))), (2, .int (nI (v + 20))), (3, .int (nI (rs / 2))), (0, .int (nI 2)), (1, .int (nI r))]) hx hb dX4_percentAt_89 hl (k := 4) rfl (nI_1 j) (by decide) rfl (fun ls hl => ?_)
              refine lv_goto (tgt := 71) hx hb dX4_percentAt_92 (by decide) ?_
              exact ih71 (j + 1) (v + 20) (rs / 2) _ _ _ (by omega) (by omega) (by rw [sp_hv_step (by omega) c4] at hv; rw [show 4 - (j + 1) = 4 - j - 1 by omega]; omega) (by omega) (by omega) hP hD hS (lv_sub hl [3, 4, 1, 2, 0] rfl)
      exact hloop71 (_ + 1) 0 20 r _ _ _ (by omega) (hr) (rfl) (by omega) (Nat.lt_succ_self _) hP hD hS (lv_sub hl [3, 4, 2, 1, 0] rfl)
  · have c1 := mt (sp_z_gt (by omega)).mpr c1
    refine lv_iconst (v := nI 0) hx hb dX4_percentAt_4 (by decide) ?_
    exact hend _ _ _ _ _ () dX4_percentAt_5 (by rw [show r = 0 by omega]; unfold sp_pct; split <;> (try split) <;> rfl) hP hD hS

set_option maxHeartbeats 4000000 in
set_option maxRecDepth 100000 in
theorem c_X3_has (l : Launch) (g : sp_G) (a : sp_A) (u : sp_U) (t : sp_T) (hR : sp_R u t) (hI : sp_I t) (x : Int32) : sp_CB l g yX3_has wsX3_has ({ frames := 0, cells := 0, slots := 0, locals := 0 }) [.ref a.1, .int x] (twW g a u) (fun b (_ : Unit) => b = sp_has x (tn t)) (fun _ => twW g a u) := by
  refine sp_CB.of (cc := cX3_has) (maxL := 2) (by decide) rfl (Nat.le_of_ble_eq_true rfl) ?_
  intro p e s m below meth c Q A ls SF hK hP hD hA hl hend
  have hx := SF.1
  have hb := SF.2.1
  have hown : s.vm.findClass RX3 = some m.cls := SF.2.2.2.1
  have hts := SF.2.2.2.2
  have hS : va_S A s.heap s.heap [] := va_S.rf
  have inX3 : ∀ w ∈ wsX30, w ∈ wsX3_has := fun w h => List.mem_cons_of_mem _ (List.mem_append_right _ h)
  have hl : lv_has ls 2 [(0, .ref a.1), (1, .int x)] := hl
  have hn8 := hI.n
  refine lv_iload_n hx hb dX3_has_0 rfl (lv_at hl 1 rfl) ?_
  refine lv_if_lt (tgt := 16) hx hb dX3_has_1 (by decide) (fun c1 => ?_) (fun c1 => ?_)
  · refine lv_iconst (v := bI false) hx hb dX3_has_16 (by decide) ?_
    exact hend _ _ _ _ false () dX3_has_17 (by first | exact sp_in1 c1 | exact sp_in2 hn8 c2 | exact sp_in3 hn8 c1 c2) hP hD hS
  · refine lv_iload_n hx hb dX3_has_4 rfl (lv_at hl 1 rfl) ?_
    refine lv_aload_n hx hb dX3_has_5 rfl (lv_at hl 0 rfl) ?_
    refine va_get (D := g.1) (ci := 3) (v := .int u.2.2.2.2.2.2.1) (C := RX3) (T := TX3) (N := 8) hx hb hts inX3 hown hK.1 hP 0 rfl rfl 6 (by decide) (hts _ (List.mem_of_getElem? (i := 1) rfl)) (fun _ h9 => h9) rfl dX3_has_6 ?_
    refine sp_top (y := nI (tn t)) (hR.cnt) ?_
    refine lv_icmp_ge (tgt := 16) hx hb dX3_has_9 (by decide) (fun c2 => ?_) (fun c2 => ?_)
    · refine lv_iconst (v := bI false) hx hb dX3_has_16 (by decide) ?_
      exact hend _ _ _ _ false () dX3_has_17 (by first | exact sp_in1 c1 | exact sp_in2 hn8 c2 | exact sp_in3 hn8 c1 c2) hP hD hS
    · refine lv_iconst (v := bI true) hx hb dX3_has_12 (by decide) ?_
      refine lv_goto (tgt := 17) hx hb dX3_has_13 (by decide) ?_
      exact hend _ _ _ _ true () dX3_has_17 (by first | exact sp_in1 c1 | exact sp_in2 hn8 c2 | exact sp_in3 hn8 c1 c2) hP hD hS

set_option maxHeartbeats 4000000 in
set_option maxRecDepth 100000 in
theorem c_X3_ageOf (l : Launch) (g : sp_G) (a : sp_A) (u : sp_U) (t : sp_T) (hR : sp_R u t) (hI : sp_I t) (i : Nat) (hi : i < tn t) : sp_CI l g yX3_ageOf wsX3_ageOf ({ frames := 0, cells := 0, slots := 0, locals := 0 }) [.ref a.1, .int (nI i)] (twW g a u) (fun z (_ : Unit) => z = nI (sp_age t i)) (fun _ => twW g a u) := by
  refine sp_CI.of (cc := cX3_ageOf) (maxL := 2) (by decide) rfl (Nat.le_of_ble_eq_true rfl) ?_
  intro p e s m below meth c Q A ls SF hK hP hD hA hl hend
  have hx := SF.1
  have hb := SF.2.1
  have hown : s.vm.findClass RX3 = some m.cls := SF.2.2.2.1
  have hts := SF.2.2.2.2
  have hS : va_S A s.heap s.heap [] := va_S.rf
  have inX3 : ∀ w ∈ wsX30, w ∈ wsX3_ageOf := fun w h => List.mem_cons_of_mem _ (List.mem_append_right _ h)
  have hl : lv_has ls 2 [(0, .ref a.1), (1, .int (nI i))] := hl
  have hn8 := hI.n
  refine lv_aload_n hx hb dX3_ageOf_0 rfl (lv_at hl 0 rfl) ?_
  refine va_get (D := g.1) (ci := 3) (v := .int u.2.2.2.2.2.1) (C := RX3) (T := TX3) (N := 8) hx hb hts inX3 hown hK.1 hP 0 rfl rfl 5 (by decide) (hts _ (List.mem_of_getElem? (i := 1) rfl)) (fun _ h9 => h9) rfl dX3_ageOf_1 ?_
  refine sp_top (y := nI (td t)) (hR.day) ?_
  refine lv_aload_n hx hb dX3_ageOf_4 rfl (lv_at hl 0 rfl) ?_
  refine va_get (D := g.1) (ci := 3) (v := .ref a.2.2.1) (C := RX3) (T := TX3) (N := 8) hx hb hts inX3 hown hK.1 hP 0 rfl rfl 1 (by decide) (hts _ (List.mem_of_getElem? (i := 2) rfl)) (fun _ h9 => h9) rfl dX3_ageOf_5 ?_
  refine lv_iload_n hx hb dX3_ageOf_8 rfl (lv_at hl 1 rfl) ?_
  refine va_iald hx hb hK.1 hP 2 0 rfl rfl (vp_in_nI (by omega) (by omega)) dX3_ageOf_9 ?_
  refine sp_top (y := u.2.1 i) (congrArg u.2.1 (sp_c8 (by omega))) ?_
  refine sp_top (y := nI (tpo t i)) (hR.po hi) ?_
  refine lv_isub hx hb dX3_ageOf_10 ?_
  refine sp_top (y := nI (sp_age t i)) (sp_sub (hI.po hi)) ?_
  exact hend _ _ _ _ _ () dX3_ageOf_11 (rfl) hP hD hS

set_option maxHeartbeats 4000000 in
set_option maxRecDepth 100000 in
theorem c_X3_strengthOf (l : Launch) (g : sp_G) (a : sp_A) (u : sp_U) (t : sp_T) (hR : sp_R u t) (hI : sp_I t) (i : Nat) (hi : i < tn t) : sp_CI l g yX3_strengthOf wsX3_strengthOf ({ frames := 1, cells := 0, slots := 0, locals := 24 }) [.ref a.1, .int (nI i)] (twW g a u) (fun z (_ : Unit) => z = nI (sp_str t i)) (fun _ => twW g a u) := by
  refine sp_CI.of (cc := cX3_strengthOf) (maxL := 3) (by decide) rfl (Nat.le_of_ble_eq_true rfl) ?_
  intro p e s m below meth c Q A ls SF hK hP hD hA hl hend
  have hx := SF.1
  have hb := SF.2.1
  have hown : s.vm.findClass RX3 = some m.cls := SF.2.2.2.1
  have hts := SF.2.2.2.2
  have hS : va_S A s.heap s.heap [] := va_S.rf
  have inX3 : ∀ w ∈ wsX30, w ∈ wsX3_strengthOf := fun w h => List.mem_cons_of_mem _ (List.mem_append_right _ h)
  have hl : lv_has ls 3 [(0, .ref a.1), (1, .int (nI i))] := hl
  have hn8 := hI.n
  refine lv_aload_n hx hb dX3_strengthOf_0 rfl (lv_at hl 0 rfl) ?_
  refine lv_iload_n hx hb dX3_strengthOf_1 rfl (lv_at hl 1 rfl) ?_
  refine sp_vi0 (n := 1) SF hK hA (c_X3_ageOf l g a u t hR hI i hi) gX3_strengthOf_X3_ageOf rfl rfl rfl (by decide +kernel) rfl ⟨Nat.le_of_ble_eq_true rfl, Nat.le_of_ble_eq_true rfl⟩ 3 0 rfl rfl hP hD hS hl.1 rfl (Nat.le_of_ble_eq_true rfl) dX3_strengthOf_2 (fun r9 u9 H locs w1 hP hD hS => ?_)
  subst w1
  have hP : va_P g.1 vwCl (twW g a u) H := hP
  have hD : va_D A (twW g a u) := hD
  refine lv_bipush (v := nI 10) hx hb dX3_strengthOf_5 (by decide) ?_
  refine lv_aload_n hx hb dX3_strengthOf_7 rfl (lv_at hl 0 rfl) ?_
  refine va_get (D := g.1) (ci := 3) (v := .ref a.2.2.2.1) (C := RX3) (T := TX3) (N := 8) hx hb hts inX3 hown hK.1 hP 0 rfl rfl 2 (by decide) (hts _ (List.mem_of_getElem? (i := 1) rfl)) (fun _ h9 => h9) rfl dX3_strengthOf_8 ?_
  refine lv_iload_n hx hb dX3_strengthOf_11 rfl (lv_at hl 1 rfl) ?_
  refine va_iald hx hb hK.1 hP 3 0 rfl rfl (vp_in_nI (by omega) (by omega)) dX3_strengthOf_12 ?_
  refine sp_top (y := u.2.2.1 i) (congrArg u.2.2.1 (sp_c8 (by omega))) ?_
  refine sp_top (y := nI (tsl t i)) (hR.sl hi) ?_
  refine lv_isub hx hb dX3_strengthOf_13 ?_
  refine sp_top (y := nI (10 - tsl t i)) (sp_sub (Nat.le_trans (hI.sl hi) (by omega))) ?_
  refine lv_imul hx hb dX3_strengthOf_14 ?_
  refine sp_top (y := nI ((sp_age t i) * (10 - tsl t i))) (sp_mul _ _) ?_
  refine lv_bipush (v := nI 10) hx hb dX3_strengthOf_15 (by decide) ?_
  have hag := sp_age_le hI i
  have hm1 : sp_age t i * (10 - tsl t i) ≤ 200000 * 10 := Nat.mul_le_mul hag (by omega)
  refine lv_idiv hx hb dX3_strengthOf_17 (sp_ne (by omega) (by omega)) ?_
  refine sp_top (y := nI (sp_rip t i)) (sp_div (by omega) (by omega) (by omega)) ?_
  refine lv_istore_n (lv' := [(2, .int (nI (sp_rip t i))), (0, .ref a.1), (1, .int (nI i))]) hx hb dX3_strengthOf_18 rfl hl (by decide) rfl (fun ls hl => ?_)
  refine lv_aload_n hx hb dX3_strengthOf_19 rfl (lv_at hl 1 rfl) ?_
  refine va_get (D := g.1) (ci := 3) (v := .ref a.2.1) (C := RX3) (T := TX3) (N := 8) hx hb hts inX3 hown hK.1 hP 0 rfl rfl 0 (by decide) (hts _ (List.mem_of_getElem? (i := 2) rfl)) (fun _ h9 => h9) rfl dX3_strengthOf_20 ?_
  refine lv_iconst (v := nI 1) hx hb dX3_strengthOf_23 (by decide) ?_
  refine va_iald hx hb hK.1 hP 1 0 rfl rfl (vp_in_nI (by omega) (by omega)) dX3_strengthOf_24 ?_
  refine sp_top (y := u.1 1) (congrArg u.1 (sp_c8 (by omega))) ?_
  refine sp_top (y := nI (tm t)) (hR.b1) ?_
  refine lv_aload_n hx hb dX3_strengthOf_25 rfl (lv_at hl 1 rfl) ?_
  refine va_get (D := g.1) (ci := 3) (v := .ref a.2.1) (C := RX3) (T := TX3) (N := 8) hx hb hts inX3 hown hK.1 hP 0 rfl rfl 0 (by decide) (hts _ (List.mem_of_getElem? (i := 2) rfl)) (fun _ h9 => h9) rfl dX3_strengthOf_26 ?_
  refine lv_iconst (v := nI 2) hx hb dX3_strengthOf_29 (by decide) ?_
  refine va_iald hx hb hK.1 hP 1 0 rfl rfl (vp_in_nI (by omega) (by omega)) dX3_strengthOf_30 ?_
  refine sp_top (y := u.1 2) (congrArg u.1 (sp_c8 (by omega))) ?_
  refine sp_top (y := nI (tt t)) (hR.b2) ?_
  refine lv_iload_n hx hb dX3_strengthOf_31 rfl (lv_at hl 0 rfl) ?_
  refine sp_sn (n := 2) (wc := []) (wr := (twW g a u)) SF hK hA (c_X4_percentAt l g (tt t) (sp_rip t i) hI.t (Nat.le_trans (sp_rip_le hI i) (by omega))) ggX3_strengthOf_X4_percentAt rfl (List.mem_of_getElem? (i := 10) rfl) (List.mem_of_getElem? (i := 11) rfl) rfl rfl (by decide +kernel) rfl ⟨Nat.le_of_ble_eq_true rfl, Nat.le_of_ble_eq_true rfl⟩ hP hD hS hl.1 rfl (Nat.le_of_ble_eq_true rfl) dX3_strengthOf_32 (fun r9 u9 H locs w2 hP hD hS => ?_)
  subst w2
  have hP : va_P g.1 vwCl (twW g a u) H := hP
  have hD : va_D A (twW g a u) := hD
  refine lv_imul hx hb dX3_strengthOf_35 ?_
  refine sp_top (y := nI ((tm t) * (sp_pct (tt t) (sp_rip t i)))) (sp_mul _ _) ?_
  refine lv_bipush (v := nI 100) hx hb dX3_strengthOf_36 (by decide) ?_
  have hm2 : tm t * sp_pct (tt t) (sp_rip t i) ≤ 400 * 100 := Nat.mul_le_mul hI.m (sp_pct_le _ _)
  refine lv_idiv hx hb dX3_strengthOf_38 (sp_ne (by omega) (by omega)) ?_
  refine sp_top (y := nI (sp_str t i)) (sp_div (by omega) (by omega) (by omega)) ?_
  exact hend _ _ _ _ _ () dX3_strengthOf_39 (rfl) hP hD hS

set_option maxHeartbeats 4000000 in
set_option maxRecDepth 100000 in
theorem c_X3_isPropped (l : Launch) (g : sp_G) (a : sp_A) (u : sp_U) (t : sp_T) (hR : sp_R u t) (hI : sp_I t) (i : Nat) (hi : i < 8) : sp_CB l g yX3_isPropped wsX3_isPropped ({ frames := 0, cells := 0, slots := 0, locals := 0 }) [.ref a.1, .int (nI i)] (twW g a u) (fun b (_ : Unit) => b = sp_pp t i) (fun _ => twW g a u) := by
  refine sp_CB.of (cc := cX3_isPropped) (maxL := 2) (by decide) rfl (Nat.le_of_ble_eq_true rfl) ?_
  intro p e s m below meth c Q A ls SF hK hP hD hA hl hend
  have hx := SF.1
  have hb := SF.2.1
  have hown : s.vm.findClass RX3 = some m.cls := SF.2.2.2.1
  have hts := SF.2.2.2.2
  have hS : va_S A s.heap s.heap [] := va_S.rf
  have inX3 : ∀ w ∈ wsX30, w ∈ wsX3_isPropped := fun w h => List.mem_cons_of_mem _ (List.mem_append_right _ h)
  have hl : lv_has ls 2 [(0, .ref a.1), (1, .int (nI i))] := hl
  have hn8 := hI.n
  refine lv_aload_n hx hb dX3_isPropped_0 rfl (lv_at hl 0 rfl) ?_
  refine va_get (D := g.1) (ci := 3) (v := .int u.2.2.2.2.2.2.2) (C := RX3) (T := TX3) (N := 8) hx hb hts inX3 hown hK.1 hP 0 rfl rfl 7 (by decide) (hts _ (List.mem_of_getElem? (i := 1) rfl)) (fun _ h9 => h9) rfl dX3_isPropped_1 ?_
  refine sp_top (y := nI (tpr t)) (hR.prp) ?_
  refine lv_iload_n hx hb dX3_isPropped_4 rfl (lv_at hl 1 rfl) ?_
  refine lv_ishr hx hb dX3_isPropped_5 ?_
  refine lv_iconst (v := nI 1) hx hb dX3_isPropped_6 (by decide) ?_
  refine lv_iand hx hb dX3_isPropped_7 ?_
  refine lv_iconst (v := nI 1) hx hb dX3_isPropped_8 (by decide) ?_
  refine lv_icmp_ne (tgt := 16) hx hb dX3_isPropped_9 (by decide) (fun c1 => ?_) (fun c1 => ?_)
  · refine lv_iconst (v := bI false) hx hb dX3_isPropped_16 (by decide) ?_
    exact hend _ _ _ _ false () dX3_isPropped_17 (by first | exact (sp_bit1 hI.pr8 hi c1).symm | exact (sp_bit0 hI.pr8 hi c1).symm) hP hD hS
  · refine lv_iconst (v := bI true) hx hb dX3_isPropped_12 (by decide) ?_
    refine lv_goto (tgt := 17) hx hb dX3_isPropped_13 (by decide) ?_
    exact hend _ _ _ _ true () dX3_isPropped_17 (by first | exact (sp_bit1 hI.pr8 hi c1).symm | exact (sp_bit0 hI.pr8 hi c1).symm) hP hD hS

set_option maxHeartbeats 4000000 in
set_option maxRecDepth 100000 in
theorem c_X3_lowestOf (l : Launch) (g : sp_G) (a : sp_A) (u : sp_U) (t : sp_T) (hR : sp_R u t) (hI : sp_I t) (i : Nat) (hi : i < 8) : sp_CI l g yX3_lowestOf wsX3_lowestOf ({ frames := 1, cells := 0, slots := 0, locals := 21 }) [.ref a.1, .int (nI i)] (twW g a u) (fun z (_ : Unit) => z = nI (sp_low t i)) (fun _ => twW g a u) := by
  refine sp_CI.of (cc := cX3_lowestOf) (maxL := 3) (by decide) rfl (Nat.le_of_ble_eq_true rfl) ?_
  intro p e s m below meth c Q A ls SF hK hP hD hA hl hend
  have hx := SF.1
  have hb := SF.2.1
  have hown : s.vm.findClass RX3 = some m.cls := SF.2.2.2.1
  have hts := SF.2.2.2.2
  have hS : va_S A s.heap s.heap [] := va_S.rf
  have inX3 : ∀ w ∈ wsX30, w ∈ wsX3_lowestOf := fun w h => List.mem_cons_of_mem _ (List.mem_append_right _ h)
  have hl : lv_has ls 3 [(0, .ref a.1), (1, .int (nI i))] := hl
  have hn8 := hI.n
  refine lv_iload_n hx hb dX3_lowestOf_0 rfl (lv_at hl 1 rfl) ?_
  refine lv_istore_n (lv' := [(2, .int (nI i)), (0, .ref a.1), (1, .int (nI i))]) hx hb dX3_lowestOf_1 rfl hl (by decide) rfl (fun ls hl => ?_)
  have hloop2 : ∀ (n2 : Nat) (k : Nat) (H : Heap) (locs : List Loc) (ls : Array Slot), (k ≤ i) → (sp_low t k = sp_low t i) → k < n2 → va_P g.1 vwCl (twW g a u) H → va_D A (twW g a u) → va_S A s.heap H locs → lv_has ls 3 [(0, .ref a.1), (1, .int (nI i)), (2, .int (nI k))] → W p l e ({ frames := 1, cells := 0, slots := 0, locals := 21 }) s m ([.ref a.1, .int (nI i)] : List Value).toArray below meth c H locs 0 0 Q (F0 m 2 ls []) := by
    intro n2
    induction n2 with
    | zero =>
      intro k H locs ls hk hlow h9
      exact absurd h9 (Nat.not_lt_zero _)
    | succ n2 ih2 =>
      intro k H locs ls hk hlow hm2 hP hD hS hl
      refine lv_iload_n hx hb dX3_lowestOf_2 rfl (lv_at hl 2 rfl) ?_
      refine lv_if_le (tgt := 20) hx hb dX3_lowestOf_3 (by decide) (fun c1 => ?_) (fun c1 => ?_)
      · have c1 := (sp_z_le (by omega)).mp c1
        refine lv_iload_n hx hb dX3_lowestOf_20 rfl (lv_at hl 2 rfl) ?_
        exact hend _ _ _ _ _ () dX3_lowestOf_21 (by first | (rw [← hlow, hlow2]) | (rw [← hlow, show k = 0 by omega]; rfl)) hP hD hS
      · have c1 := mt (sp_z_le (by omega)).mpr c1
        obtain ⟨j, rfl⟩ : ∃ j, k = j + 1 := ⟨k - 1, by omega⟩
        refine lv_aload_n hx hb dX3_lowestOf_6 rfl (lv_at hl 0 rfl) ?_
        refine lv_iload_n hx hb dX3_lowestOf_7 rfl (lv_at hl 2 rfl) ?_
        refine sp_vi0 (n := 1) SF hK hA (c_X3_isPropped l g a u t hR hI (j + 1) (by omega)) gX3_lowestOf_X3_isPropped rfl rfl rfl (by decide +kernel) rfl ⟨Nat.le_of_ble_eq_true rfl, Nat.le_of_ble_eq_true rfl⟩ 3 0 rfl rfl hP hD hS hl.1 rfl (Nat.le_of_ble_eq_true rfl) dX3_lowestOf_8 (fun r9 u9 H locs hbb hP hD hS => ?_)
        obtain ⟨bb, rfl, hbb⟩ := hbb
        have hP : va_P g.1 vwCl (twW g a u) H := hP
        have hD : va_D A (twW g a u) := hD
        refine lv_if_eq (tgt := 20) hx hb dX3_lowestOf_11 (by decide) (fun c2 => ?_) (fun c2 => ?_)
        · have c2 := sp_b0.mp c2
          have hlow2 : sp_low t (j + 1) = j + 1 := by show lowF _ (j + 1) = j + 1; simp only [lowF]; rw [← hbb, c2]; rfl
          refine lv_iload_n hx hb dX3_lowestOf_20 rfl (lv_at hl 2 rfl) ?_
          exact hend _ _ _ _ _ () dX3_lowestOf_21 (by first | (rw [← hlow, hlow2]) | (rw [← hlow, show k = 0 by omega]; rfl)) hP hD hS
        · have c2 := sp_b0n.mp c2
          have hlow2 : sp_low t (j + 1) = sp_low t j := by show lowF _ (j + 1) = lowF _ j; simp only [lowF]; rw [← hbb, c2]; rfl
          refine lv_iinc (v := nI j) (lv' := [(2, .int (nI j)), (0, .ref a.1), (1, .int (nI i))]) hx hb dX3_lowestOf_14 hl (k := 2) rfl (sp_dec j) (by decide) rfl (fun ls hl => ?_)
          refine lv_goto (tgt := 2) hx hb dX3_lowestOf_17 (by decide) ?_
          exact ih2 j _ _ _ (by omega) (hlow2.symm.trans hlow) (by omega) hP hD hS (lv_sub hl [1, 2, 0] rfl)
  exact hloop2 (_ + 1) i _ _ _ (Nat.le_refl _) (rfl) (Nat.lt_succ_self _) hP hD hS (lv_sub hl [1, 2, 0] rfl)

set_option maxHeartbeats 4000000 in
set_option maxRecDepth 100000 in
theorem c_X3_highestOf (l : Launch) (g : sp_G) (a : sp_A) (u : sp_U) (t : sp_T) (hR : sp_R u t) (hI : sp_I t) (i : Nat) (hi : i < tn t) : sp_CI l g yX3_highestOf wsX3_highestOf ({ frames := 1, cells := 0, slots := 0, locals := 21 }) [.ref a.1, .int (nI i)] (twW g a u) (fun z (_ : Unit) => z = nI (sp_hi t i)) (fun _ => twW g a u) := by
  refine sp_CI.of (cc := cX3_highestOf) (maxL := 3) (by decide) rfl (Nat.le_of_ble_eq_true rfl) ?_
  intro p e s m below meth c Q A ls SF hK hP hD hA hl hend
  have hx := SF.1
  have hb := SF.2.1
  have hown : s.vm.findClass RX3 = some m.cls := SF.2.2.2.1
  have hts := SF.2.2.2.2
  have hS : va_S A s.heap s.heap [] := va_S.rf
  have inX3 : ∀ w ∈ wsX30, w ∈ wsX3_highestOf := fun w h => List.mem_cons_of_mem _ (List.mem_append_right _ h)
  have hl : lv_has ls 3 [(0, .ref a.1), (1, .int (nI i))] := hl
  have hn8 := hI.n
  refine lv_iload_n hx hb dX3_highestOf_0 rfl (lv_at hl 1 rfl) ?_
  refine lv_istore_n (lv' := [(2, .int (nI i)), (0, .ref a.1), (1, .int (nI i))]) hx hb dX3_highestOf_1 rfl hl (by decide) rfl (fun ls hl => ?_)
  have hloop2 : ∀ (n2 : Nat) (k : Nat) (H : Heap) (locs : List Loc) (ls : Array Slot), (k < tn t) → (sp_hi t k = sp_hi t i) → tn t - k < n2 → va_P g.1 vwCl (twW g a u) H → va_D A (twW g a u) → va_S A s.heap H locs → lv_has ls 3 [(0, .ref a.1), (1, .int (nI i)), (2, .int (nI k))] → W p l e ({ frames := 1, cells := 0, slots := 0, locals := 21 }) s m ([.ref a.1, .int (nI i)] : List Value).toArray below meth c H locs 0 0 Q (F0 m 2 ls []) := by
    intro n2
    induction n2 with
    | zero =>
      intro k H locs ls hk hh h9
      exact absurd h9 (Nat.not_lt_zero _)
    | succ n2 ih2 =>
      intro k H locs ls hk hh hm2 hP hD hS hl
      refine lv_iload_n hx hb dX3_highestOf_2 rfl (lv_at hl 2 rfl) ?_
      refine lv_iconst (v := nI 1) hx hb dX3_highestOf_3 (by decide) ?_
      refine lv_iadd hx hb dX3_highestOf_4 ?_
      refine sp_top (y := nI (k + 1)) (nI_add _ _) ?_
      refine lv_aload_n hx hb dX3_highestOf_5 rfl (lv_at hl 0 rfl) ?_
      refine va_get (D := g.1) (ci := 3) (v := .int u.2.2.2.2.2.2.1) (C := RX3) (T := TX3) (N := 8) hx hb hts inX3 hown hK.1 hP 0 rfl rfl 6 (by decide) (hts _ (List.mem_of_getElem? (i := 1) rfl)) (fun _ h9 => h9) rfl dX3_highestOf_6 ?_
      refine sp_top (y := nI (tn t)) (hR.cnt) ?_
      refine lv_icmp_ge (tgt := 28) hx hb dX3_highestOf_9 (by decide) (fun c1 => ?_) (fun c1 => ?_)
      · have c1 := (nI_leI (by omega) (by omega)).mp c1
        refine lv_iload_n hx hb dX3_highestOf_28 rfl (lv_at hl 2 rfl) ?_
        exact hend _ _ _ _ _ () dX3_highestOf_29 (by first | rw [← hh, sp_hi_end (Or.inl c1)] | rw [← hh, sp_hi_end (Or.inr hbb)]) hP hD hS
      · have c1 := mt (nI_leI (by omega) (by omega)).mpr c1
        refine lv_aload_n hx hb dX3_highestOf_12 rfl (lv_at hl 0 rfl) ?_
        refine lv_iload_n hx hb dX3_highestOf_13 rfl (lv_at hl 2 rfl) ?_
        refine lv_iconst (v := nI 1) hx hb dX3_highestOf_14 (by decide) ?_
        refine lv_iadd hx hb dX3_highestOf_15 ?_
        refine sp_top (y := nI (k + 1)) (nI_add _ _) ?_
        refine sp_vi0 (n := 1) SF hK hA (c_X3_isPropped l g a u t hR hI (k + 1) (by omega)) gX3_highestOf_X3_isPropped rfl rfl rfl (by decide +kernel) rfl ⟨Nat.le_of_ble_eq_true rfl, Nat.le_of_ble_eq_true rfl⟩ 3 0 rfl rfl hP hD hS hl.1 rfl (Nat.le_of_ble_eq_true rfl) dX3_highestOf_16 (fun r9 u9 H locs hbb hP hD hS => ?_)
        obtain ⟨bb, rfl, hbb⟩ := hbb
        have hP : va_P g.1 vwCl (twW g a u) H := hP
        have hD : va_D A (twW g a u) := hD
        refine lv_if_eq (tgt := 28) hx hb dX3_highestOf_19 (by decide) (fun c2 => ?_) (fun c2 => ?_)
        · have c2 := sp_b0.mp c2
          rw [c2] at hbb; have hbb := hbb.symm
          refine lv_iload_n hx hb dX3_highestOf_28 rfl (lv_at hl 2 rfl) ?_
          exact hend _ _ _ _ _ () dX3_highestOf_29 (by first | rw [← hh, sp_hi_end (Or.inl c1)] | rw [← hh, sp_hi_end (Or.inr hbb)]) hP hD hS
        · have c2 := sp_b0n.mp c2
          rw [c2] at hbb; have hbb := hbb.symm
          refine lv_iinc (v := nI (k + 1)) (lv' := [(2, .int (nI (k + 1))), (0, .ref a.1), (1, .int (nI i))]) hx hb dX3_highestOf_22 hl (k := 2) rfl (nI_1 k) (by decide) rfl (fun ls hl => ?_)
          refine lv_goto (tgt := 2) hx hb dX3_highestOf_25 (by decide) ?_
          exact ih2 (k + 1) _ _ _ (by omega) ((sp_hi_step (by omega) hbb).symm.trans hh) (by omega) hP hD hS (lv_sub hl [1, 2, 0] rfl)
  exact hloop2 (_ + 1) i _ _ _ (hi) (rfl) (Nat.lt_succ_self _) hP hD hS (lv_sub hl [1, 2, 0] rfl)

set_option maxHeartbeats 4000000 in
set_option maxRecDepth 100000 in
theorem c_X3_lowestPropped (l : Launch) (g : sp_G) (a : sp_A) (u : sp_U) (t : sp_T) (hR : sp_R u t) (hI : sp_I t) : sp_CI l g yX3_lowestPropped wsX3_lowestPropped ({ frames := 1, cells := 0, slots := 0, locals := 21 }) [.ref a.1] (twW g a u) (fun z (_ : Unit) => z = nI (sp_lop t)) (fun _ => twW g a u) := by
  refine sp_CI.of (cc := cX3_lowestPropped) (maxL := 2) (by decide) rfl (Nat.le_of_ble_eq_true rfl) ?_
  intro p e s m below meth c Q A ls SF hK hP hD hA hl hend
  have hx := SF.1
  have hb := SF.2.1
  have hown : s.vm.findClass RX3 = some m.cls := SF.2.2.2.1
  have hts := SF.2.2.2.2
  have hS : va_S A s.heap s.heap [] := va_S.rf
  have inX3 : ∀ w ∈ wsX30, w ∈ wsX3_lowestPropped := fun w h => List.mem_cons_of_mem _ (List.mem_append_right _ h)
  have hl : lv_has ls 2 [(0, .ref a.1)] := hl
  have hn8 := hI.n
  refine lv_iconst (v := nI 0) hx hb dX3_lowestPropped_0 (by decide) ?_
  refine lv_istore_n (lv' := [(1, .int (nI 0)), (0, .ref a.1)]) hx hb dX3_lowestPropped_1 rfl hl (by decide) rfl (fun ls hl => ?_)
  have hloop2 : ∀ (n2 : Nat) (k : Nat) (H : Heap) (locs : List Loc) (ls : Array Slot), (k ≤ tn t) → (lpF (sp_pp t) (tn t - k) k = sp_lop t) → tn t - k < n2 → va_P g.1 vwCl (twW g a u) H → va_D A (twW g a u) → va_S A s.heap H locs → lv_has ls 2 [(0, .ref a.1), (1, .int (nI k))] → W p l e ({ frames := 1, cells := 0, slots := 0, locals := 21 }) s m ([.ref a.1] : List Value).toArray below meth c H locs 0 0 Q (F0 m 2 ls []) := by
    intro n2
    induction n2 with
    | zero =>
      intro k H locs ls hk hh h9
      exact absurd h9 (Nat.not_lt_zero _)
    | succ n2 ih2 =>
      intro k H locs ls hk hh hm2 hP hD hS hl
      refine lv_iload_n hx hb dX3_lowestPropped_2 rfl (lv_at hl 1 rfl) ?_
      refine lv_aload_n hx hb dX3_lowestPropped_3 rfl (lv_at hl 0 rfl) ?_
      refine va_get (D := g.1) (ci := 3) (v := .int u.2.2.2.2.2.2.1) (C := RX3) (T := TX3) (N := 8) hx hb hts inX3 hown hK.1 hP 0 rfl rfl 6 (by decide) (hts _ (List.mem_of_getElem? (i := 1) rfl)) (fun _ h9 => h9) rfl dX3_lowestPropped_4 ?_
      refine sp_top (y := nI (tn t)) (hR.cnt) ?_
      refine lv_icmp_ge (tgt := 24) hx hb dX3_lowestPropped_7 (by decide) (fun c1 => ?_) (fun c1 => ?_)
      · have c1 := (nI_leI (by omega) (by omega)).mp c1
        refine lv_iload_n hx hb dX3_lowestPropped_24 rfl (lv_at hl 1 rfl) ?_
        exact hend _ _ _ _ _ () dX3_lowestPropped_25 (by first | rw [← hh, lpF_end c1] | rw [← hh, lpF_hit (by omega) hbb]) hP hD hS
      · have c1 := mt (nI_leI (by omega) (by omega)).mpr c1
        refine lv_aload_n hx hb dX3_lowestPropped_10 rfl (lv_at hl 0 rfl) ?_
        refine lv_iload_n hx hb dX3_lowestPropped_11 rfl (lv_at hl 1 rfl) ?_
        refine sp_vi0 (n := 1) SF hK hA (c_X3_isPropped l g a u t hR hI k (by omega)) gX3_lowestPropped_X3_isPropped rfl rfl rfl (by decide +kernel) rfl ⟨Nat.le_of_ble_eq_true rfl, Nat.le_of_ble_eq_true rfl⟩ 3 0 rfl rfl hP hD hS hl.1 rfl (Nat.le_of_ble_eq_true rfl) dX3_lowestPropped_12 (fun r9 u9 H locs hbb hP hD hS => ?_)
        obtain ⟨bb, rfl, hbb⟩ := hbb
        have hP : va_P g.1 vwCl (twW g a u) H := hP
        have hD : va_D A (twW g a u) := hD
        refine lv_if_ne (tgt := 24) hx hb dX3_lowestPropped_15 (by decide) (fun c2 => ?_) (fun c2 => ?_)
        · have c2 := sp_b0n.mp c2
          rw [c2] at hbb; have hbb := hbb.symm
          refine lv_iload_n hx hb dX3_lowestPropped_24 rfl (lv_at hl 1 rfl) ?_
          exact hend _ _ _ _ _ () dX3_lowestPropped_25 (by first | rw [← hh, lpF_end c1] | rw [← hh, lpF_hit (by omega) hbb]) hP hD hS
        · have c2 := sp_b0.mp c2
          rw [c2] at hbb; have hbb := hbb.symm
          refine lv_iinc (v := nI (k + 1)) (lv' := [(1, .int (nI (k + 1))), (0, .ref a.1)]) hx hb dX3_lowestPropped_18 hl (k := 1) rfl (nI_1 k) (by decide) rfl (fun ls hl => ?_)
          refine lv_goto (tgt := 2) hx hb dX3_lowestPropped_21 (by decide) ?_
          exact ih2 (k + 1) _ _ _ (by omega) ((lpF_step (by omega) hbb).symm.trans hh) (by omega) hP hD hS (lv_sub hl [1, 0] rfl)
  exact hloop2 (_ + 1) 0 _ _ _ (Nat.zero_le _) (rfl) (Nat.lt_succ_self _) hP hD hS (lv_sub hl [1, 0] rfl)

set_option maxHeartbeats 4000000 in
set_option maxRecDepth 100000 in
theorem c_X3_isGrounded (l : Launch) (g : sp_G) (a : sp_A) (u : sp_U) (t : sp_T) (hR : sp_R u t) (hI : sp_I t) (i : Nat) (hi : i < 8) : sp_CB l g yX3_isGrounded wsX3_isGrounded ({ frames := 2, cells := 0, slots := 0, locals := 43 }) [.ref a.1, .int (nI i)] (twW g a u) (fun b (_ : Unit) => b = sp_gr t i) (fun _ => twW g a u) := by
  refine sp_CB.of (cc := cX3_isGrounded) (maxL := 2) (by decide) rfl (Nat.le_of_ble_eq_true rfl) ?_
  intro p e s m below meth c Q A ls SF hK hP hD hA hl hend
  have hx := SF.1
  have hb := SF.2.1
  have hown : s.vm.findClass RX3 = some m.cls := SF.2.2.2.1
  have hts := SF.2.2.2.2
  have hS : va_S A s.heap s.heap [] := va_S.rf
  have inX3 : ∀ w ∈ wsX30, w ∈ wsX3_isGrounded := fun w h => List.mem_cons_of_mem _ (List.mem_append_right _ h)
  have hl : lv_has ls 2 [(0, .ref a.1), (1, .int (nI i))] := hl
  have hn8 := hI.n
  refine lv_aload_n hx hb dX3_isGrounded_0 rfl (lv_at hl 0 rfl) ?_
  refine lv_iload_n hx hb dX3_isGrounded_1 rfl (lv_at hl 1 rfl) ?_
  refine sp_vi0 (n := 1) SF hK hA (c_X3_lowestOf l g a u t hR hI i hi) gX3_isGrounded_X3_lowestOf rfl rfl rfl (by decide +kernel) rfl ⟨Nat.le_of_ble_eq_true rfl, Nat.le_of_ble_eq_true rfl⟩ 3 0 rfl rfl hP hD hS hl.1 rfl (Nat.le_of_ble_eq_true rfl) dX3_isGrounded_2 (fun r9 u9 H locs w1 hP hD hS => ?_)
  subst w1
  have hP : va_P g.1 vwCl (twW g a u) H := hP
  have hD : va_D A (twW g a u) := hD
  have hlw := sp_low_le t i
  refine lv_if_ne (tgt := 20) hx hb dX3_isGrounded_5 (by decide) (fun c1 => ?_) (fun c1 => ?_)
  · have c1 := mt (sp_z_eq (by omega)).mpr c1
    refine lv_iconst (v := bI false) hx hb dX3_isGrounded_20 (by decide) ?_
    exact hend _ _ _ _ false () dX3_isGrounded_21 (by first | (unfold sp_gr; rw [← hbb, c2, c1]; rfl) | (unfold sp_gr; rw [decide_eq_false c1]; rfl)) hP hD hS
  · have c1 := (sp_z_eq (by omega)).mp c1
    refine lv_aload_n hx hb dX3_isGrounded_8 rfl (lv_at hl 0 rfl) ?_
    refine lv_iconst (v := nI 0) hx hb dX3_isGrounded_9 (by decide) ?_
    refine sp_vi0 (n := 1) SF hK hA (c_X3_isPropped l g a u t hR hI 0 (by omega)) gX3_isGrounded_X3_isPropped rfl rfl rfl (by decide +kernel) rfl ⟨Nat.le_of_ble_eq_true rfl, Nat.le_of_ble_eq_true rfl⟩ 3 0 rfl rfl hP hD hS hl.1 rfl (Nat.le_of_ble_eq_true rfl) dX3_isGrounded_10 (fun r9 u9 H locs hbb hP hD hS => ?_)
    obtain ⟨bb, rfl, hbb⟩ := hbb
    have hP : va_P g.1 vwCl (twW g a u) H := hP
    have hD : va_D A (twW g a u) := hD
    refine lv_if_eq (tgt := 20) hx hb dX3_isGrounded_13 (by decide) (fun c2 => ?_) (fun c2 => ?_)
    · have c2 := sp_b0.mp c2
      refine lv_iconst (v := bI false) hx hb dX3_isGrounded_20 (by decide) ?_
      exact hend _ _ _ _ false () dX3_isGrounded_21 (by first | (unfold sp_gr; rw [← hbb, c2, c1]; rfl) | (unfold sp_gr; rw [decide_eq_false c1]; rfl)) hP hD hS
    · have c2 := sp_b0n.mp c2
      refine lv_iconst (v := bI true) hx hb dX3_isGrounded_16 (by decide) ?_
      refine lv_goto (tgt := 21) hx hb dX3_isGrounded_17 (by decide) ?_
      exact hend _ _ _ _ true () dX3_isGrounded_21 (by first | (unfold sp_gr; rw [← hbb, c2, c1]; rfl) | (unfold sp_gr; rw [decide_eq_false c1]; rfl)) hP hD hS

set_option maxHeartbeats 4000000 in
set_option maxRecDepth 100000 in
theorem c_X3_forceUnder (l : Launch) (g : sp_G) (a : sp_A) (u : sp_U) (t : sp_T) (hR : sp_R u t) (hI : sp_I t) (i : Nat) (hi : i < tn t) : sp_CI l g yX3_forceUnder wsX3_forceUnder ({ frames := 2, cells := 0, slots := 0, locals := 43 }) [.ref a.1, .int (nI i)] (twW g a u) (fun z (_ : Unit) => z = sp_frc t i) (fun _ => twW g a u) := by
  refine sp_CI.of (cc := cX3_forceUnder) (maxL := 5) (by decide) rfl (Nat.le_of_ble_eq_true rfl) ?_
  intro p e s m below meth c Q A ls SF hK hP hD hA hl hend
  have hx := SF.1
  have hb := SF.2.1
  have hown : s.vm.findClass RX3 = some m.cls := SF.2.2.2.1
  have hts := SF.2.2.2.2
  have hS : va_S A s.heap s.heap [] := va_S.rf
  have inX3 : ∀ w ∈ wsX30, w ∈ wsX3_forceUnder := fun w h => List.mem_cons_of_mem _ (List.mem_append_right _ h)
  have hl : lv_has ls 5 [(0, .ref a.1), (1, .int (nI i))] := hl
  have hn8 := hI.n
  refine lv_aload_n hx hb dX3_forceUnder_0 rfl (lv_at hl 0 rfl) ?_
  refine lv_iload_n hx hb dX3_forceUnder_1 rfl (lv_at hl 1 rfl) ?_
  refine sp_vi0 (n := 1) SF hK hA (c_X3_isPropped l g a u t hR hI i (by omega)) gX3_forceUnder_X3_isPropped rfl rfl rfl (by decide +kernel) rfl ⟨Nat.le_of_ble_eq_true rfl, Nat.le_of_ble_eq_true rfl⟩ 3 0 rfl rfl hP hD hS hl.1 rfl (Nat.le_of_ble_eq_true rfl) dX3_forceUnder_2 (fun r9 u9 H locs hbb hP hD hS => ?_)
  obtain ⟨bb, rfl, hbb⟩ := hbb
  have hP : va_P g.1 vwCl (twW g a u) H := hP
  have hD : va_D A (twW g a u) := hD
  refine lv_if_ne (tgt := 10) hx hb dX3_forceUnder_5 (by decide) (fun c1 => ?_) (fun c1 => ?_)
  · have c1 := sp_b0n.mp c1
    rw [c1] at hbb; have hbb := hbb.symm
    have hhl := sp_hi_lt hi
    have hhg := sp_le_hi t i
    refine lv_iconst (v := nI 0) hx hb dX3_forceUnder_10 (by decide) ?_
    refine lv_istore_n (lv' := [(2, .int (nI 0)), (0, .ref a.1), (1, .int (nI i))]) hx hb dX3_forceUnder_11 rfl hl (by decide) rfl (fun ls hl => ?_)
    refine lv_aload_n hx hb dX3_forceUnder_12 rfl (lv_at hl 1 rfl) ?_
    refine lv_iload_n hx hb dX3_forceUnder_13 rfl (lv_at hl 2 rfl) ?_
    refine sp_vi0 (n := 1) SF hK hA (c_X3_highestOf l g a u t hR hI i hi) gX3_forceUnder_X3_highestOf rfl rfl rfl (by decide +kernel) rfl ⟨Nat.le_of_ble_eq_true rfl, Nat.le_of_ble_eq_true rfl⟩ 3 0 rfl rfl hP hD hS hl.1 rfl (Nat.le_of_ble_eq_true rfl) dX3_forceUnder_14 (fun r9 u9 H locs w1 hP hD hS => ?_)
    subst w1
    have hP : va_P g.1 vwCl (twW g a u) H := hP
    have hD : va_D A (twW g a u) := hD
    refine lv_istore_n (lv' := [(3, .int (nI (sp_hi t i))), (2, .int (nI 0)), (0, .ref a.1), (1, .int (nI i))]) hx hb dX3_forceUnder_17 rfl hl (by decide) rfl (fun ls hl => ?_)
    refine lv_iload_n hx hb dX3_forceUnder_18 rfl (lv_at hl 3 rfl) ?_
    refine lv_istore (lv' := [(4, .int (nI i)), (3, .int (nI (sp_hi t i))), (2, .int (nI 0)), (0, .ref a.1), (1, .int (nI i))]) hx hb dX3_forceUnder_19 hl (by decide) rfl (fun ls hl => ?_)
    have hloop21 : ∀ (n21 : Nat) (k : Nat) (z : Int32) (H : Heap) (locs : List Loc) (ls : Array Slot), (i ≤ k) → (k ≤ sp_hi t i + 1) → (lp (sp_frs t) (sp_hi t i + 1 - k) k z = sp_frc t i) → sp_hi t i + 1 - k < n21 → va_P g.1 vwCl (twW g a u) H → va_D A (twW g a u) → va_S A s.heap H locs → lv_has ls 5 [(0, .ref a.1), (1, .int (nI i)), (2, .int z), (3, .int (nI (sp_hi t i))), (4, .int (nI k))] → W p l e ({ frames := 2, cells := 0, slots := 0, locals := 43 }) s m ([.ref a.1, .int (nI i)] : List Value).toArray below meth c H locs 0 0 Q (F0 m 21 ls []) := by
      intro n21
      induction n21 with
      | zero =>
        intro k z H locs ls hk1 hk2 hh h9
        exact absurd h9 (Nat.not_lt_zero _)
      | succ n21 ih21 =>
        intro k z H locs ls hk1 hk2 hh hm21 hP hD hS hl
        refine lv_iload hx hb dX3_forceUnder_21 (lv_at hl 4 rfl) ?_
        refine lv_iload_n hx hb dX3_forceUnder_23 rfl (lv_at hl 3 rfl) ?_
        refine lv_icmp_gt (tgt := 50) hx hb dX3_forceUnder_24 (by decide) (fun c2 => ?_) (fun c2 => ?_)
        · have c2 := (nI_ltI (by omega) (by omega)).mp c2
          refine lv_iload_n hx hb dX3_forceUnder_50 rfl (lv_at hl 2 rfl) ?_
          exact hend _ _ _ _ _ () dX3_forceUnder_51 (by rw [← hh, lp_end _ (by omega)]) hP hD hS
        · have c2 := mt (nI_ltI (by omega) (by omega)).mpr c2
          refine lv_iload_n hx hb dX3_forceUnder_27 rfl (lv_at hl 2 rfl) ?_
          refine lv_aload_n hx hb dX3_forceUnder_28 rfl (lv_at hl 0 rfl) ?_
          refine va_get (D := g.1) (ci := 3) (v := .ref a.2.1) (C := RX3) (T := TX3) (N := 8) hx hb hts inX3 hown hK.1 hP 0 rfl rfl 0 (by decide) (hts _ (List.mem_of_getElem? (i := 1) rfl)) (fun _ h9 => h9) rfl dX3_forceUnder_29 ?_
          refine lv_iconst (v := nI 0) hx hb dX3_forceUnder_32 (by decide) ?_
          refine va_iald hx hb hK.1 hP 1 0 rfl rfl (vp_in_nI (by omega) (by omega)) dX3_forceUnder_33 ?_
          refine sp_top (y := u.1 0) (congrArg u.1 (sp_c8 (by omega))) ?_
          refine sp_top (y := nI (tw t)) (hR.b0) ?_
          refine lv_aload_n hx hb dX3_forceUnder_34 rfl (lv_at hl 0 rfl) ?_
          refine va_get (D := g.1) (ci := 3) (v := .ref a.2.2.2.2.1) (C := RX3) (T := TX3) (N := 8) hx hb hts inX3 hown hK.1 hP 0 rfl rfl 3 (by decide) (hts _ (List.mem_of_getElem? (i := 2) rfl)) (fun _ h9 => h9) rfl dX3_forceUnder_35 ?_
          refine lv_iload hx hb dX3_forceUnder_38 (lv_at hl 4 rfl) ?_
          refine va_iald hx hb hK.1 hP 4 0 rfl rfl (vp_in_nI (by omega) (by omega)) dX3_forceUnder_40 ?_
          refine sp_top (y := u.2.2.2.1 k) (congrArg u.2.2.2.1 (sp_c8 (by omega))) ?_
          refine sp_top (y := tlo t k) (hR.lo (by omega)) ?_
          refine lv_isub hx hb dX3_forceUnder_41 ?_
          refine lv_iadd hx hb dX3_forceUnder_42 ?_
          refine sp_top (y := sp_frs t k z) (rfl) ?_
          refine lv_istore_n (lv' := [(2, .int (sp_frs t k z)), (0, .ref a.1), (1, .int (nI i)), (3, .int (nI (sp_hi t i))), (4, .int (nI k))]) hx hb dX3_forceUnder_43 rfl hl (by decide) rfl (fun ls hl => ?_)
          refine lv_iinc (v := nI (k + 1)) (lv' := [(4, .int (nI (k + 1))), (2, .int (sp_frs t k z)), (0, .ref a.1), (1, .int (nI i)), (3, .int (nI (sp_hi t i)))]) hx hb dX3_forceUnder_44 hl (k := 4) rfl (nI_1 k) (by decide) rfl (fun ls hl => ?_)
          refine lv_goto (tgt := 21) hx hb dX3_forceUnder_47 (by decide) ?_
          exact ih21 (k + 1) (sp_frs t k z) _ _ _ (by omega) (by omega) ((lp_step _ (by omega) _).symm.trans hh) (by omega) hP hD hS (lv_sub hl [2, 3, 1, 4, 0] rfl)
    exact hloop21 (_ + 1) i (nI 0) _ _ _ (Nat.le_refl _) (by omega) (by unfold sp_frc; rw [hbb]; rfl) (Nat.lt_succ_self _) hP hD hS (lv_sub hl [3, 4, 2, 1, 0] rfl)
  · have c1 := sp_b0.mp c1
    rw [c1] at hbb; have hbb := hbb.symm
    refine lv_iconst (v := nI 0) hx hb dX3_forceUnder_8 (by decide) ?_
    exact hend _ _ _ _ _ () dX3_forceUnder_9 (by unfold sp_frc; rw [hbb]; rfl) hP hD hS

set_option maxHeartbeats 4000000 in
set_option maxRecDepth 100000 in
theorem c_X3_weakSet (l : Launch) (g : sp_G) (a : sp_A) (u : sp_U) (t : sp_T) (hR : sp_R u t) (hI : sp_I t) : sp_CI l g yX3_weakSet wsX3_weakSet ({ frames := 2, cells := 0, slots := 0, locals := 46 }) [.ref a.1] (twW g a u) (fun z (_ : Unit) => z = sp_wk t) (fun _ => twW g a u) := by
  refine sp_CI.of (cc := cX3_weakSet) (maxL := 3) (by decide) rfl (Nat.le_of_ble_eq_true rfl) ?_
  intro p e s m below meth c Q A ls SF hK hP hD hA hl hend
  have hx := SF.1
  have hb := SF.2.1
  have hown : s.vm.findClass RX3 = some m.cls := SF.2.2.2.1
  have hts := SF.2.2.2.2
  have hS : va_S A s.heap s.heap [] := va_S.rf
  have inX3 : ∀ w ∈ wsX30, w ∈ wsX3_weakSet := fun w h => List.mem_cons_of_mem _ (List.mem_append_right _ h)
  have hl : lv_has ls 3 [(0, .ref a.1)] := hl
  have hn8 := hI.n
  refine lv_iconst (v := nI 0) hx hb dX3_weakSet_0 (by decide) ?_
  refine lv_istore_n (lv' := [(1, .int (nI 0)), (0, .ref a.1)]) hx hb dX3_weakSet_1 rfl hl (by decide) rfl (fun ls hl => ?_)
  refine lv_iconst (v := nI 0) hx hb dX3_weakSet_2 (by decide) ?_
  refine lv_istore_n (lv' := [(2, .int (nI 0)), (1, .int (nI 0)), (0, .ref a.1)]) hx hb dX3_weakSet_3 rfl hl (by decide) rfl (fun ls hl => ?_)
  have hloop4 : ∀ (n4 : Nat) (k : Nat) (z : Int32) (H : Heap) (locs : List Loc) (ls : Array Slot), (k ≤ tn t) → (lp (sp_wks t) (tn t - k) k z = sp_wk t) → tn t - k < n4 → va_P g.1 vwCl (twW g a u) H → va_D A (twW g a u) → va_S A s.heap H locs → lv_has ls 3 [(0, .ref a.1), (1, .int z), (2, .int (nI k))] → W p l e ({ frames := 2, cells := 0, slots := 0, locals := 46 }) s m ([.ref a.1] : List Value).toArray below meth c H locs 0 0 Q (F0 m 4 ls []) := by
    intro n4
    induction n4 with
    | zero =>
      intro k z H locs ls hk2 hh h9
      exact absurd h9 (Nat.not_lt_zero _)
    | succ n4 ih4 =>
      intro k z H locs ls hk2 hh hm4 hP hD hS hl
      refine lv_iload_n hx hb dX3_weakSet_4 rfl (lv_at hl 2 rfl) ?_
      refine lv_aload_n hx hb dX3_weakSet_5 rfl (lv_at hl 0 rfl) ?_
      refine va_get (D := g.1) (ci := 3) (v := .int u.2.2.2.2.2.2.1) (C := RX3) (T := TX3) (N := 8) hx hb hts inX3 hown hK.1 hP 0 rfl rfl 6 (by decide) (hts _ (List.mem_of_getElem? (i := 1) rfl)) (fun _ h9 => h9) rfl dX3_weakSet_6 ?_
      refine sp_top (y := nI (tn t)) (hR.cnt) ?_
      refine lv_icmp_ge (tgt := 38) hx hb dX3_weakSet_9 (by decide) (fun c1 => ?_) (fun c1 => ?_)
      · have c1 := (nI_leI (by omega) (by omega)).mp c1
        refine lv_iload_n hx hb dX3_weakSet_38 rfl (lv_at hl 1 rfl) ?_
        exact hend _ _ _ _ _ () dX3_weakSet_39 (by rw [← hh, lp_end _ (by omega)]) hP hD hS
      · have c1 := mt (nI_leI (by omega) (by omega)).mpr c1
        refine lv_aload_n hx hb dX3_weakSet_12 rfl (lv_at hl 0 rfl) ?_
        refine va_get (D := g.1) (ci := 3) (v := .ref a.2.2.2.2.1) (C := RX3) (T := TX3) (N := 8) hx hb hts inX3 hown hK.1 hP 0 rfl rfl 3 (by decide) (hts _ (List.mem_of_getElem? (i := 2) rfl)) (fun _ h9 => h9) rfl dX3_weakSet_13 ?_
        refine lv_iload_n hx hb dX3_weakSet_16 rfl (lv_at hl 2 rfl) ?_
        refine va_iald hx hb hK.1 hP 4 0 rfl rfl (vp_in_nI (by omega) (by omega)) dX3_weakSet_17 ?_
        refine sp_top (y := u.2.2.2.1 k) (congrArg u.2.2.2.1 (sp_c8 (by omega))) ?_
        refine sp_top (y := tlo t k) (hR.lo (by omega)) ?_
        refine lv_aload_n hx hb dX3_weakSet_18 rfl (lv_at hl 0 rfl) ?_
        refine lv_iload_n hx hb dX3_weakSet_19 rfl (lv_at hl 2 rfl) ?_
        refine sp_vi0 (n := 1) SF hK hA (c_X3_strengthOf l g a u t hR hI k (by omega)) gX3_weakSet_X3_strengthOf rfl rfl rfl (by decide +kernel) rfl ⟨Nat.le_of_ble_eq_true rfl, Nat.le_of_ble_eq_true rfl⟩ 3 0 rfl rfl hP hD hS hl.1 rfl (Nat.le_of_ble_eq_true rfl) dX3_weakSet_20 (fun r9 u9 H locs w1 hP hD hS => ?_)
        subst w1
        have hP : va_P g.1 vwCl (twW g a u) H := hP
        have hD : va_D A (twW g a u) := hD
        refine lv_icmp_le (tgt := 32) hx hb dX3_weakSet_23 (by decide) (fun c2 => ?_) (fun c2 => ?_)
        · have c2 : ¬ nI (sp_str t k) < tlo t k := Int32.not_lt.mpr c2
          refine lv_iinc (v := nI (k + 1)) (lv' := [(2, .int (nI (k + 1))), (0, .ref a.1), (1, .int z)]) hx hb dX3_weakSet_32 hl (k := 2) rfl (nI_1 k) (by decide) rfl (fun ls hl => ?_)
          refine lv_goto (tgt := 4) hx hb dX3_weakSet_35 (by decide) ?_
          exact ih4 (k + 1) z _ _ _ (by omega) (by rw [← hh, lp_step (sp_wks t) (show k < tn t by omega)]; first | rw [sp_wks_t c2] | rw [sp_wks_f c2]) (by omega) hP hD hS (lv_sub hl [1, 2, 0] rfl)
        · have c2 : nI (sp_str t k) < tlo t k := Int32.not_le.mp c2
          refine lv_iload_n hx hb dX3_weakSet_26 rfl (lv_at hl 1 rfl) ?_
          refine lv_iconst (v := nI 1) hx hb dX3_weakSet_27 (by decide) ?_
          refine lv_iload_n hx hb dX3_weakSet_28 rfl (lv_at hl 2 rfl) ?_
          refine lv_ishl hx hb dX3_weakSet_29 ?_
          refine lv_ior hx hb dX3_weakSet_30 ?_
          refine lv_istore_n (lv' := [(1, .int (z ||| ((nI 1) <<< ((nI k) &&& 31)))), (0, .ref a.1), (2, .int (nI k))]) hx hb dX3_weakSet_31 rfl hl (by decide) rfl (fun ls hl => ?_)
          refine lv_iinc (v := nI (k + 1)) (lv' := [(2, .int (nI (k + 1))), (1, .int (z ||| ((nI 1) <<< ((nI k) &&& 31)))), (0, .ref a.1)]) hx hb dX3_weakSet_32 hl (k := 2) rfl (nI_1 k) (by decide) rfl (fun ls hl => ?_)
          refine lv_goto (tgt := 4) hx hb dX3_weakSet_35 (by decide) ?_
          exact ih4 (k + 1) (z ||| (nI 1 <<< (nI k &&& 31))) _ _ _ (by omega) (by rw [← hh, lp_step (sp_wks t) (show k < tn t by omega)]; first | rw [sp_wks_t c2] | rw [sp_wks_f c2]) (by omega) hP hD hS (lv_sub hl [2, 1, 0] rfl)
  exact hloop4 (_ + 1) 0 (nI 0) _ _ _ (Nat.zero_le _) (rfl) (Nat.lt_succ_self _) hP hD hS (lv_sub hl [2, 1, 0] rfl)

set_option maxHeartbeats 4000000 in
set_option maxRecDepth 100000 in
theorem c_X3_isSafe (l : Launch) (g : sp_G) (a : sp_A) (u : sp_U) (t : sp_T) (hR : sp_R u t) (hI : sp_I t) : sp_CB l g yX3_isSafe wsX3_isSafe ({ frames := 3, cells := 0, slots := 0, locals := 68 }) [.ref a.1] (twW g a u) (fun b (_ : Unit) => b = sp_safe t) (fun _ => twW g a u) := by
  refine sp_CB.of (cc := cX3_isSafe) (maxL := 1) (by decide) rfl (Nat.le_of_ble_eq_true rfl) ?_
  intro p e s m below meth c Q A ls SF hK hP hD hA hl hend
  have hx := SF.1
  have hb := SF.2.1
  have hown : s.vm.findClass RX3 = some m.cls := SF.2.2.2.1
  have hts := SF.2.2.2.2
  have hS : va_S A s.heap s.heap [] := va_S.rf
  have inX3 : ∀ w ∈ wsX30, w ∈ wsX3_isSafe := fun w h => List.mem_cons_of_mem _ (List.mem_append_right _ h)
  have hl : lv_has ls 1 [(0, .ref a.1)] := hl
  have hn8 := hI.n
  refine lv_aload_n hx hb dX3_isSafe_0 rfl (lv_at hl 0 rfl) ?_
  refine sp_vi0 (n := 0) SF hK hA (c_X3_weakSet l g a u t hR hI) gX3_isSafe_X3_weakSet rfl rfl rfl (by decide +kernel) rfl ⟨Nat.le_of_ble_eq_true rfl, Nat.le_of_ble_eq_true rfl⟩ 3 0 rfl rfl hP hD hS hl.1 rfl (Nat.le_of_ble_eq_true rfl) dX3_isSafe_1 (fun r9 u9 H locs w1 hP hD hS => ?_)
  subst w1
  have hP : va_P g.1 vwCl (twW g a u) H := hP
  have hD : va_D A (twW g a u) := hD
  refine lv_if_ne (tgt := 11) hx hb dX3_isSafe_4 (by decide) (fun c1 => ?_) (fun c1 => ?_)
  · refine lv_iconst (v := bI false) hx hb dX3_isSafe_11 (by decide) ?_
    exact hend _ _ _ _ false () dX3_isSafe_12 (by first | exact (decide_eq_true c1).symm | exact (decide_eq_false c1).symm) hP hD hS
  · refine lv_iconst (v := bI true) hx hb dX3_isSafe_7 (by decide) ?_
    refine lv_goto (tgt := 12) hx hb dX3_isSafe_8 (by decide) ?_
    exact hend _ _ _ _ true () dX3_isSafe_12 (by first | exact (decide_eq_true c1).symm | exact (decide_eq_false c1).symm) hP hD hS

set_option maxHeartbeats 4000000 in
set_option maxRecDepth 100000 in
theorem c_X3_greatestExcess (l : Launch) (g : sp_G) (a : sp_A) (u : sp_U) (t : sp_T) (hR : sp_R u t) (hI : sp_I t) (h0 : 0 < tn t) : sp_CI l g yX3_greatestExcess wsX3_greatestExcess ({ frames := 2, cells := 0, slots := 0, locals := 46 }) [.ref a.1] (twW g a u) (fun z (_ : Unit) => z = sp_exc t) (fun _ => twW g a u) := by
  refine sp_CI.of (cc := cX3_greatestExcess) (maxL := 3) (by decide) rfl (Nat.le_of_ble_eq_true rfl) ?_
  intro p e s m below meth c Q A ls SF hK hP hD hA hl hend
  have hx := SF.1
  have hb := SF.2.1
  have hown : s.vm.findClass RX3 = some m.cls := SF.2.2.2.1
  have hts := SF.2.2.2.2
  have hS : va_S A s.heap s.heap [] := va_S.rf
  have inX3 : ∀ w ∈ wsX30, w ∈ wsX3_greatestExcess := fun w h => List.mem_cons_of_mem _ (List.mem_append_right _ h)
  have hl : lv_has ls 3 [(0, .ref a.1)] := hl
  have hn8 := hI.n
  refine lv_aload_n hx hb dX3_greatestExcess_0 rfl (lv_at hl 0 rfl) ?_
  refine va_get (D := g.1) (ci := 3) (v := .ref a.2.2.2.2.1) (C := RX3) (T := TX3) (N := 8) hx hb hts inX3 hown hK.1 hP 0 rfl rfl 3 (by decide) (hts _ (List.mem_of_getElem? (i := 1) rfl)) (fun _ h9 => h9) rfl dX3_greatestExcess_1 ?_
  refine lv_iconst (v := nI 0) hx hb dX3_greatestExcess_4 (by decide) ?_
  refine va_iald hx hb hK.1 hP 4 0 rfl rfl (vp_in_nI (by omega) (by omega)) dX3_greatestExcess_5 ?_
  refine sp_top (y := u.2.2.2.1 0) (congrArg u.2.2.2.1 (sp_c8 (by omega))) ?_
  refine sp_top (y := tlo t 0) (hR.lo h0) ?_
  refine lv_aload_n hx hb dX3_greatestExcess_6 rfl (lv_at hl 0 rfl) ?_
  refine lv_iconst (v := nI 0) hx hb dX3_greatestExcess_7 (by decide) ?_
  refine sp_vi0 (n := 1) SF hK hA (c_X3_strengthOf l g a u t hR hI 0 h0) gX3_greatestExcess_X3_strengthOf rfl rfl rfl (by decide +kernel) rfl ⟨Nat.le_of_ble_eq_true rfl, Nat.le_of_ble_eq_true rfl⟩ 3 0 rfl rfl hP hD hS hl.1 rfl (Nat.le_of_ble_eq_true rfl) dX3_greatestExcess_8 (fun r9 u9 H locs w1 hP hD hS => ?_)
  subst w1
  have hP : va_P g.1 vwCl (twW g a u) H := hP
  have hD : va_D A (twW g a u) := hD
  refine lv_isub hx hb dX3_greatestExcess_11 ?_
  refine lv_istore_n (lv' := [(1, .int ((tlo t 0) - (nI (sp_str t 0)))), (0, .ref a.1)]) hx hb dX3_greatestExcess_12 rfl hl (by decide) rfl (fun ls hl => ?_)
  refine lv_iconst (v := nI 1) hx hb dX3_greatestExcess_13 (by decide) ?_
  refine lv_istore_n (lv' := [(2, .int (nI 1)), (1, .int ((tlo t 0) - (nI (sp_str t 0)))), (0, .ref a.1)]) hx hb dX3_greatestExcess_14 rfl hl (by decide) rfl (fun ls hl => ?_)
  have hloop15 : ∀ (n15 : Nat) (k : Nat) (z : Int32) (H : Heap) (locs : List Loc) (ls : Array Slot), (1 ≤ k) → (k ≤ tn t) → (lp (sp_exs t) (tn t - k) k z = sp_exc t) → tn t - k < n15 → va_P g.1 vwCl (twW g a u) H → va_D A (twW g a u) → va_S A s.heap H locs → lv_has ls 3 [(0, .ref a.1), (1, .int z), (2, .int (nI k))] → W p l e ({ frames := 2, cells := 0, slots := 0, locals := 46 }) s m ([.ref a.1] : List Value).toArray below meth c H locs 0 0 Q (F0 m 15 ls []) := by
    intro n15
    induction n15 with
    | zero =>
      intro k z H locs ls hk1 hk2 hh h9
      exact absurd h9 (Nat.not_lt_zero _)
    | succ n15 ih15 =>
      intro k z H locs ls hk1 hk2 hh hm15 hP hD hS hl
      refine lv_iload_n hx hb dX3_greatestExcess_15 rfl (lv_at hl 2 rfl) ?_
      refine lv_aload_n hx hb dX3_greatestExcess_16 rfl (lv_at hl 0 rfl) ?_
      refine va_get (D := g.1) (ci := 3) (v := .int u.2.2.2.2.2.2.1) (C := RX3) (T := TX3) (N := 8) hx hb hts inX3 hown hK.1 hP 0 rfl rfl 6 (by decide) (hts _ (List.mem_of_getElem? (i := 2) rfl)) (fun _ h9 => h9) rfl dX3_greatestExcess_17 ?_
      refine sp_top (y := nI (tn t)) (hR.cnt) ?_
      refine lv_icmp_ge (tgt := 46) hx hb dX3_greatestExcess_20 (by decide) (fun c1 => ?_) (fun c1 => ?_)
      · have c1 := (nI_leI (by omega) (by omega)).mp c1
        refine lv_iload_n hx hb dX3_greatestExcess_46 rfl (lv_at hl 1 rfl) ?_
        exact hend _ _ _ _ _ () dX3_greatestExcess_47 (by rw [← hh, lp_end _ (by omega)]) hP hD hS
      · have c1 := mt (nI_leI (by omega) (by omega)).mpr c1
        refine lv_iload_n hx hb dX3_greatestExcess_23 rfl (lv_at hl 1 rfl) ?_
        refine lv_aload_n hx hb dX3_greatestExcess_24 rfl (lv_at hl 0 rfl) ?_
        refine va_get (D := g.1) (ci := 3) (v := .ref a.2.2.2.2.1) (C := RX3) (T := TX3) (N := 8) hx hb hts inX3 hown hK.1 hP 0 rfl rfl 3 (by decide) (hts _ (List.mem_of_getElem? (i := 1) rfl)) (fun _ h9 => h9) rfl dX3_greatestExcess_25 ?_
        refine lv_iload_n hx hb dX3_greatestExcess_28 rfl (lv_at hl 2 rfl) ?_
        refine va_iald hx hb hK.1 hP 4 0 rfl rfl (vp_in_nI (by omega) (by omega)) dX3_greatestExcess_29 ?_
        refine sp_top (y := u.2.2.2.1 k) (congrArg u.2.2.2.1 (sp_c8 (by omega))) ?_
        refine sp_top (y := tlo t k) (hR.lo (by omega)) ?_
        refine lv_aload_n hx hb dX3_greatestExcess_30 rfl (lv_at hl 0 rfl) ?_
        refine lv_iload_n hx hb dX3_greatestExcess_31 rfl (lv_at hl 2 rfl) ?_
        refine sp_vi0 (n := 1) SF hK hA (c_X3_strengthOf l g a u t hR hI k (by omega)) gX3_greatestExcess_X3_strengthOf rfl rfl rfl (by decide +kernel) rfl ⟨Nat.le_of_ble_eq_true rfl, Nat.le_of_ble_eq_true rfl⟩ 3 0 rfl rfl hP hD hS hl.1 rfl (Nat.le_of_ble_eq_true rfl) dX3_greatestExcess_32 (fun r9 u9 H locs w2 hP hD hS => ?_)
        subst w2
        have hP : va_P g.1 vwCl (twW g a u) H := hP
        have hD : va_D A (twW g a u) := hD
        refine lv_isub hx hb dX3_greatestExcess_35 ?_
        refine va_mmax hx hb (by rw [SF.2.2.1]; exact hl.1.symm) hown (hts _ (List.mem_of_getElem? (i := 3) rfl)) (hts _ (List.mem_of_getElem? (i := 4) rfl)) (hts _ (List.mem_of_getElem? (i := 5) rfl)) (hts _ (List.mem_of_getElem? (i := 6) rfl)) (Nat.le_of_ble_eq_true rfl) (Nat.le_of_ble_eq_true rfl) (Nat.zero_le _) (Nat.zero_le _) dX3_greatestExcess_36 ?_
        refine sp_top (y := sp_exs t k z) (rfl) ?_
        refine lv_istore_n (lv' := [(1, .int (sp_exs t k z)), (0, .ref a.1), (2, .int (nI k))]) hx hb dX3_greatestExcess_39 rfl hl (by decide) rfl (fun ls hl => ?_)
        refine lv_iinc (v := nI (k + 1)) (lv' := [(2, .int (nI (k + 1))), (1, .int (sp_exs t k z)), (0, .ref a.1)]) hx hb dX3_greatestExcess_40 hl (k := 2) rfl (nI_1 k) (by decide) rfl (fun ls hl => ?_)
        refine lv_goto (tgt := 15) hx hb dX3_greatestExcess_43 (by decide) ?_
        exact ih15 (k + 1) (sp_exs t k z) _ _ _ (by omega) (by omega) ((lp_step _ (by omega) _).symm.trans hh) (by omega) hP hD hS (lv_sub hl [2, 1, 0] rfl)
  exact hloop15 (_ + 1) 1 (tlo t 0 - nI (sp_str t 0)) _ _ _ (Nat.le_refl _) (h0) (rfl) (Nat.lt_succ_self _) hP hD hS (lv_sub hl [2, 1, 0] rfl)

set_option maxHeartbeats 4000000 in
set_option maxRecDepth 100000 in
theorem c_X3_empty (l : Launch) (g : sp_G) (a : sp_A) (u : sp_U) : sp_CV l g yX3_empty wsX3_empty ({ frames := 0, cells := 0, slots := 0, locals := 0 }) [.ref a.1] (twW g a u) (fun (_ : Unit) => True) (fun _ => twW g a (u.1, u.2.1, u.2.2.1, u.2.2.2.1, u.2.2.2.2.1, nI 0, nI 0, nI 0)) := by
  refine sp_CV.of (cc := cX3_empty) (maxL := 1) (by decide) rfl (Nat.le_of_ble_eq_true rfl) ?_
  intro p e s m below meth c Q A ls SF hK hP hD hA hl hend
  have hx := SF.1
  have hb := SF.2.1
  have hown : s.vm.findClass RX3 = some m.cls := SF.2.2.2.1
  have hts := SF.2.2.2.2
  have hS : va_S A s.heap s.heap [] := va_S.rf
  have inX3 : ∀ w ∈ wsX30, w ∈ wsX3_empty := fun w h => List.mem_cons_of_mem _ (List.mem_append_right _ h)
  have hl : lv_has ls 1 [(0, .ref a.1)] := hl
  refine lv_aload_n hx hb dX3_empty_0 rfl (lv_at hl 0 rfl) ?_
  refine lv_iconst (v := nI 0) hx hb dX3_empty_1 (by decide) ?_
  refine va_put (D := g.1) (ci := 3) (v := .int (nI 0)) (ty := .int) (C := RX3) (T := TX3) (N := 8) hx hb hts inX3 tyX3 tyX3_ok nmX3 hown hK.1 hP hD hS 0 rfl rfl 5 (by decide) (hts _ (List.mem_of_getElem? (i := 1) rfl)) (fun _ h9 => h9) rfl (by decide +kernel) rfl rfl (Nat.le_of_ble_eq_true rfl) dX3_empty_2 (fun H locs hP hD hS => ?_)
  have hP : va_P g.1 vwCl (twW g a (u.1, u.2.1, u.2.2.1, u.2.2.2.1, u.2.2.2.2.1, (nI 0), u.2.2.2.2.2.2.1, u.2.2.2.2.2.2.2)) H := hP
  have hD : va_D A (twW g a (u.1, u.2.1, u.2.2.1, u.2.2.2.1, u.2.2.2.2.1, (nI 0), u.2.2.2.2.2.2.1, u.2.2.2.2.2.2.2)) := hD
  refine lv_aload_n hx hb dX3_empty_5 rfl (lv_at hl 0 rfl) ?_
  refine lv_iconst (v := nI 0) hx hb dX3_empty_6 (by decide) ?_
  refine va_put (D := g.1) (ci := 3) (v := .int (nI 0)) (ty := .int) (C := RX3) (T := TX3) (N := 8) hx hb hts inX3 tyX3 tyX3_ok nmX3 hown hK.1 hP hD hS 0 rfl rfl 6 (by decide) (hts _ (List.mem_of_getElem? (i := 2) rfl)) (fun _ h9 => h9) rfl (by decide +kernel) rfl rfl (Nat.le_of_ble_eq_true rfl) dX3_empty_7 (fun H locs hP hD hS => ?_)
  have hP : va_P g.1 vwCl (twW g a (u.1, u.2.1, u.2.2.1, u.2.2.2.1, u.2.2.2.2.1, (nI 0), (nI 0), u.2.2.2.2.2.2.2)) H := hP
  have hD : va_D A (twW g a (u.1, u.2.1, u.2.2.1, u.2.2.2.1, u.2.2.2.2.1, (nI 0), (nI 0), u.2.2.2.2.2.2.2)) := hD
  refine lv_aload_n hx hb dX3_empty_10 rfl (lv_at hl 0 rfl) ?_
  refine lv_iconst (v := nI 0) hx hb dX3_empty_11 (by decide) ?_
  refine va_put (D := g.1) (ci := 3) (v := .int (nI 0)) (ty := .int) (C := RX3) (T := TX3) (N := 8) hx hb hts inX3 tyX3 tyX3_ok nmX3 hown hK.1 hP hD hS 0 rfl rfl 7 (by decide) (hts _ (List.mem_of_getElem? (i := 3) rfl)) (fun _ h9 => h9) rfl (by decide +kernel) rfl rfl (Nat.le_of_ble_eq_true rfl) dX3_empty_12 (fun H locs hP hD hS => ?_)
  have hP : va_P g.1 vwCl (twW g a (u.1, u.2.1, u.2.2.1, u.2.2.2.1, u.2.2.2.2.1, (nI 0), (nI 0), (nI 0))) H := hP
  have hD : va_D A (twW g a (u.1, u.2.1, u.2.2.1, u.2.2.2.1, u.2.2.2.2.1, (nI 0), (nI 0), (nI 0))) := hD
  exact hend _ _ _ _ () dX3_empty_15 (trivial) hP hD hS

set_option maxHeartbeats 4000000 in
set_option maxRecDepth 100000 in
theorem c_X3_putProps (l : Launch) (g : sp_G) (a : sp_A) (u : sp_U) (pr : Nat) (hpr : pr < 256) (hu : u.2.2.2.2.2.2.2 = nI pr) (i : Nat) (hi : i < 8) : sp_CV l g yX3_putProps wsX3_putProps ({ frames := 0, cells := 0, slots := 0, locals := 0 }) [.ref a.1, .int (nI i)] (twW g a u) (fun (_ : Unit) => True) (fun _ => twW g a (u.1, u.2.1, u.2.2.1, u.2.2.2.1, u.2.2.2.2.1, u.2.2.2.2.2.1, u.2.2.2.2.2.2.1, nI (pr ||| 2 ^ i))) := by
  refine sp_CV.of (cc := cX3_putProps) (maxL := 2) (by decide) rfl (Nat.le_of_ble_eq_true rfl) ?_
  intro p e s m below meth c Q A ls SF hK hP hD hA hl hend
  have hx := SF.1
  have hb := SF.2.1
  have hown : s.vm.findClass RX3 = some m.cls := SF.2.2.2.1
  have hts := SF.2.2.2.2
  have hS : va_S A s.heap s.heap [] := va_S.rf
  have inX3 : ∀ w ∈ wsX30, w ∈ wsX3_putProps := fun w h => List.mem_cons_of_mem _ (List.mem_append_right _ h)
  have hl : lv_has ls 2 [(0, .ref a.1), (1, .int (nI i))] := hl
  refine lv_aload_n hx hb dX3_putProps_0 rfl (lv_at hl 0 rfl) ?_
  refine lv_dup hx hb dX3_putProps_1 rfl ?_
  refine va_get (D := g.1) (ci := 3) (v := .int u.2.2.2.2.2.2.2) (C := RX3) (T := TX3) (N := 8) hx hb hts inX3 hown hK.1 hP 0 rfl rfl 7 (by decide) (hts _ (List.mem_of_getElem? (i := 1) rfl)) (fun _ h9 => h9) rfl dX3_putProps_2 ?_
  refine sp_top (y := nI pr) (hu) ?_
  refine lv_iconst (v := nI 1) hx hb dX3_putProps_5 (by decide) ?_
  refine lv_iload_n hx hb dX3_putProps_6 rfl (lv_at hl 1 rfl) ?_
  refine lv_ishl hx hb dX3_putProps_7 ?_
  refine lv_ior hx hb dX3_putProps_8 ?_
  refine sp_top (y := nI (pr ||| 2 ^ i)) (sp_bor pr hpr i hi) ?_
  refine va_put (D := g.1) (ci := 3) (v := .int (nI (pr ||| 2 ^ i))) (ty := .int) (C := RX3) (T := TX3) (N := 8) hx hb hts inX3 tyX3 tyX3_ok nmX3 hown hK.1 hP hD hS 0 rfl rfl 7 (by decide) (hts _ (List.mem_of_getElem? (i := 1) rfl)) (fun _ h9 => h9) rfl (by decide +kernel) rfl rfl (Nat.le_of_ble_eq_true rfl) dX3_putProps_9 (fun H locs hP hD hS => ?_)
  have hP : va_P g.1 vwCl (twW g a (u.1, u.2.1, u.2.2.1, u.2.2.2.1, u.2.2.2.2.1, u.2.2.2.2.2.1, u.2.2.2.2.2.2.1, (nI (pr ||| 2 ^ i)))) H := hP
  have hD : va_D A (twW g a (u.1, u.2.1, u.2.2.1, u.2.2.2.1, u.2.2.2.2.1, u.2.2.2.2.2.1, u.2.2.2.2.2.2.1, (nI (pr ||| 2 ^ i)))) := hD
  exact hend _ _ _ _ () dX3_putProps_12 (trivial) hP hD hS
end
section
set_option maxHeartbeats 4000000 in
set_option maxRecDepth 100000 in
/-- Arrays.fill -/
theorem c_J7_fill_53178 (l : Launch) (g : sp_G) (a : Nat) (f : Nat → Int32) (v : Int32) : sp_CV l g yJ7_fill_53178 wsJ7_fill_53178 ({ frames := 0, cells := 0, slots := 0, locals := 0 }) [.ref a, .int v] (arW g a f) (fun h : Nat → Int32 => ∀ j, j < 8 → h j = v) (fun h => arW g a h) := by
  refine sp_CV.of (cc := cJ7_fill_53178) (maxL := 4) (by decide) rfl (Nat.le_of_ble_eq_true rfl) ?_
  intro p e s m below meth c Q A ls SF hK hP hD hA hl hend
  have hx := SF.1
  have hb := SF.2.1
  have hown : s.vm.findClass RJ7 = some m.cls := SF.2.2.2.1
  have hts := SF.2.2.2.2
  have hS : va_S A s.heap s.heap [] := va_S.rf
  have hl : lv_has ls 4 [(0, .ref a), (1, .int v)] := hl
  refine lv_iconst (v := nI 0) hx hb dJ7_fill_53178_0 (by decide) ?_
  refine lv_istore_n (lv' := [(2, .int (nI 0)), (0, .ref a), (1, .int v)]) hx hb dJ7_fill_53178_1 rfl hl (by decide) rfl (fun ls hl => ?_)
  refine lv_aload_n hx hb dJ7_fill_53178_2 rfl (lv_at hl 1 rfl) ?_
  refine va_alen (v := nI 8) hx hb hK.1 hP 0 0 rfl rfl rfl dJ7_fill_53178_3 ?_
  refine lv_istore_n (lv' := [(3, .int (nI 8)), (2, .int (nI 0)), (0, .ref a), (1, .int v)]) hx hb dJ7_fill_53178_4 rfl hl (by decide) rfl (fun ls hl => ?_)
  have hloop5 : ∀ (n5 : Nat) (k : Nat) (h : Nat → Int32) (H : Heap) (locs : List Loc) (ls : Array Slot), (k ≤ 8) → (∀ j, j < k → h j = v) → 8 - k < n5 → va_P g.1 vwCl (arW g a h) H → va_D A (arW g a h) → va_S A s.heap H locs → lv_has ls 4 [(0, .ref a), (1, .int v), (2, .int (nI k)), (3, .int (nI 8))] → W p l e ({ frames := 0, cells := 0, slots := 0, locals := 0 }) s m ([.ref a, .int v] : List Value).toArray below meth c H locs 0 0 Q (F0 m 5 ls []) := by
    intro n5
    induction n5 with
    | zero =>
      intro k h H locs ls hk hh h9
      exact absurd h9 (Nat.not_lt_zero _)
    | succ n5 ih5 =>
      intro k h H locs ls hk hh hm5 hP hD hS hl
      refine lv_iload_n hx hb dJ7_fill_53178_5 rfl (lv_at hl 2 rfl) ?_
      refine lv_iload_n hx hb dJ7_fill_53178_6 rfl (lv_at hl 3 rfl) ?_
      refine lv_icmp_ge (tgt := 20) hx hb dJ7_fill_53178_7 (by decide) (fun c1 => ?_) (fun c1 => ?_)
      · have c1 := (nI_leI (by omega) (by omega)).mp c1
        exact hend _ _ _ _ h dJ7_fill_53178_20 (fun j hj => hh j (by omega)) hP hD hS
      · have c1 := mt (nI_leI (by omega) (by omega)).mpr c1
        refine lv_aload_n hx hb dJ7_fill_53178_10 rfl (lv_at hl 0 rfl) ?_
        refine lv_iload_n hx hb dJ7_fill_53178_11 rfl (lv_at hl 2 rfl) ?_
        refine lv_iload_n hx hb dJ7_fill_53178_12 rfl (lv_at hl 1 rfl) ?_
        refine va_iast hx hb hK.1 hP hD hS 0 0 rfl rfl (vp_in_nI (by omega) (by omega)) dJ7_fill_53178_13 (fun H locs hP hD hS => ?_)
        rw [sp_c8 (k := k) (by omega)] at hP hD
        have hP : va_P g.1 vwCl (arW g a ((upd h k v))) H := hP
        have hD : va_D A (arW g a ((upd h k v))) := hD
        refine lv_iinc (v := nI (k + 1)) (lv' := [(2, .int (nI (k + 1))), (0, .ref a), (1, .int v), (3, .int (nI 8))]) hx hb dJ7_fill_53178_14 hl (k := 2) rfl (nI_1 k) (by decide) rfl (fun ls hl => ?_)
        refine lv_goto (tgt := 5) hx hb dJ7_fill_53178_17 (by decide) ?_
        exact ih5 (k + 1) (upd h k v) _ _ _ (by omega) (sp_upd_ext0 (F := fun _ => v) hh rfl) (by omega) hP hD hS (lv_sub hl [1, 2, 0, 3] rfl)
  exact hloop5 (_ + 1) 0 f _ _ _ (by omega) (fun j hj => absurd hj (Nat.not_lt_zero j)) (Nat.lt_succ_self _) hP hD hS (lv_sub hl [2, 3, 1, 0] rfl)

set_option maxHeartbeats 4000000 in
set_option maxRecDepth 100000 in
theorem c_X3_spreadByOnes (l : Launch) (g : sp_G) (a : sp_A) (u : sp_U) (P : Nat → Nat) (lo hi : Nat) (hlh : lo ≤ hi) (hhi : hi < 8) (hP0 : ∀ j, lo ≤ j → j ≤ hi → u.2.2.2.2.1 j = nI (P j) ∧ P j < 2 ^ 31) (q : Int32) : sp_CV l g yX3_spreadByOnes wsX3_spreadByOnes ({ frames := 0, cells := 0, slots := 0, locals := 0 }) [.ref a.1, .int (nI lo), .int (nI hi), .int q] (twW g a u) (fun _ : Unit => True) (fun _ => twW g a (u.1, u.2.1, u.2.2.1, (lp (sp_s2 P) (hi + 1 - lo) lo (u.2.2.2.1, q)).1, u.2.2.2.2.1, u.2.2.2.2.2.1, u.2.2.2.2.2.2.1, u.2.2.2.2.2.2.2)) := by
  refine sp_CV.of (cc := cX3_spreadByOnes) (maxL := 7) (by decide) rfl (Nat.le_of_ble_eq_true rfl) ?_
  intro p e s m below meth c Q A ls SF hK hP hD hA hl hend
  have hx := SF.1
  have hb := SF.2.1
  have hown : s.vm.findClass RX3 = some m.cls := SF.2.2.2.1
  have hts := SF.2.2.2.2
  have hS : va_S A s.heap s.heap [] := va_S.rf
  have inX3 : ∀ w ∈ wsX30, w ∈ wsX3_spreadByOnes := fun w h => List.mem_cons_of_mem _ (List.mem_append_right _ h)
  have hl : lv_has ls 7 [(0, .ref a.1), (1, .int (nI lo)), (2, .int (nI hi)), (3, .int q)] := hl
  have hj9 : ∀  (H : Heap) (locs : List Loc) (ls : Array Slot), va_P g.1 vwCl (twW g a u) H → va_D A (twW g a u) → va_S A s.heap H locs → lv_has ls 7 [(0, .ref a.1), (1, .int (nI lo)), (2, .int (nI hi)), (3, .int q)] → W p l e ({ frames := 0, cells := 0, slots := 0, locals := 0 }) s m ([.ref a.1, .int (nI lo), .int (nI hi), .int q] : List Value).toArray below meth c H locs 0 0 Q (F0 m 9 ls [.int (sp_sg q)]) := by
    intro  H locs ls  hP hD hS hl
    refine lv_istore (lv' := [(4, .int (sp_sg q)), (0, .ref a.1), (1, .int (nI lo)), (2, .int (nI hi)), (3, .int q)]) hx hb dX3_spreadByOnes_9 hl (by decide) rfl (fun ls hl => ?_)
    refine lv_iload_n hx hb dX3_spreadByOnes_11 rfl (lv_at hl 4 rfl) ?_
    refine lv_istore (lv' := [(5, .int q), (4, .int (sp_sg q)), (0, .ref a.1), (1, .int (nI lo)), (2, .int (nI hi)), (3, .int q)]) hx hb dX3_spreadByOnes_12 hl (by decide) rfl (fun ls hl => ?_)
    refine lv_iload_n hx hb dX3_spreadByOnes_14 rfl (lv_at hl 3 rfl) ?_
    refine lv_istore (lv' := [(6, .int (nI lo)), (5, .int q), (4, .int (sp_sg q)), (0, .ref a.1), (1, .int (nI lo)), (2, .int (nI hi)), (3, .int q)]) hx hb dX3_spreadByOnes_15 hl (by decide) rfl (fun ls hl => ?_)
    have hloop17 : ∀ (n17 : Nat) (k : Nat) (f : Nat → Int32) (x : Int32) (H : Heap) (locs : List Loc) (ls : Array Slot), (lo ≤ k) → (k ≤ hi + 1) → (x = 0 ∨ sp_sg x = sp_sg q) → (lp (sp_s2 P) (hi + 1 - k) k (f, x) = lp (sp_s2 P) (hi + 1 - lo) lo (u.2.2.2.1, q)) → hi + 1 - k < n17 → va_P g.1 vwCl (twW g a (u.1, u.2.1, u.2.2.1, f, u.2.2.2.2.1, u.2.2.2.2.2.1, u.2.2.2.2.2.2.1, u.2.2.2.2.2.2.2)) H → va_D A (twW g a (u.1, u.2.1, u.2.2.1, f, u.2.2.2.2.1, u.2.2.2.2.2.1, u.2.2.2.2.2.2.1, u.2.2.2.2.2.2.2)) → va_S A s.heap H locs → lv_has ls 7 [(0, .ref a.1), (1, .int (nI lo)), (2, .int (nI hi)), (3, .int q), (4, .int (sp_sg q)), (5, .int x), (6, .int (nI k))] → W p l e ({ frames := 0, cells := 0, slots := 0, locals := 0 }) s m ([.ref a.1, .int (nI lo), .int (nI hi), .int q] : List Value).toArray below meth c H locs 0 0 Q (F0 m 17 ls []) := by
      intro n17
      induction n17 with
      | zero =>
        intro k f x H locs ls hk1 hk2 hsg hh h9
        exact absurd h9 (Nat.not_lt_zero _)
      | succ n17 ih17 =>
        intro k f x H locs ls hk1 hk2 hsg hh hm17 hP hD hS hl
        refine lv_iload hx hb dX3_spreadByOnes_17 (lv_at hl 6 rfl) ?_
        refine lv_iload_n hx hb dX3_spreadByOnes_19 rfl (lv_at hl 2 rfl) ?_
        refine lv_icmp_gt (tgt := 63) hx hb dX3_spreadByOnes_20 (by decide) (fun c0 => ?_) (fun c0 => ?_)
        · have c0 := (nI_ltI (by omega) (by omega)).mp c0
          have hf : (lp (sp_s2 P) (hi + 1 - lo) lo (u.2.2.2.1, q)).1 = f := by rw [← hh, lp_end _ (by omega)]
          subst hf
          exact hend _ _ _ _ () dX3_spreadByOnes_63 (trivial) hP hD hS
        · have c0 := mt (nI_ltI (by omega) (by omega)).mpr c0
          refine lv_iload hx hb dX3_spreadByOnes_23 (lv_at hl 5 rfl) ?_
          refine lv_if_eq (tgt := 63) hx hb dX3_spreadByOnes_25 (by decide) (fun c2 => ?_) (fun c2 => ?_)
          · have hf : (lp (sp_s2 P) (hi + 1 - lo) lo (u.2.2.2.1, q)).1 = f := by rw [← hh, c2, sp_s2_0]
            subst hf
            exact hend _ _ _ _ () dX3_spreadByOnes_63 (trivial) hP hD hS
          · have hsq : sp_sg x = sp_sg q := hsg.resolve_left c2
            have hpk := hP0 k hk1 (by omega)
            refine lv_aload_n hx hb dX3_spreadByOnes_28 rfl (lv_at hl 0 rfl) ?_
            refine va_get (D := g.1) (ci := 3) (v := .ref a.2.2.2.2.2) (C := RX3) (T := TX3) (N := 8) hx hb hts inX3 hown hK.1 hP 0 rfl rfl 4 (by decide) (hts _ (List.mem_of_getElem? (i := 1) rfl)) (fun _ h9 => h9) rfl dX3_spreadByOnes_29 ?_
            refine lv_iload hx hb dX3_spreadByOnes_32 (lv_at hl 6 rfl) ?_
            refine va_iald hx hb hK.1 hP 5 0 rfl rfl (vp_in_nI (by omega) (by omega)) dX3_spreadByOnes_34 ?_
            refine sp_top (y := u.2.2.2.2.1 k) (congrArg u.2.2.2.2.1 (sp_c8 (by omega))) ?_
            refine sp_top (y := nI (P k)) (hpk.1) ?_
            refine lv_if_le (tgt := 57) hx hb dX3_spreadByOnes_35 (by decide) (fun c3 => ?_) (fun c3 => ?_)
            · have c3 := (sp_z_le hpk.2).mp c3
              refine lv_iinc (v := nI (k + 1)) (lv' := [(6, .int (nI (k + 1))), (0, .ref a.1), (1, .int (nI lo)), (2, .int (nI hi)), (3, .int q), (4, .int (sp_sg q)), (5, .int x)]) hx hb dX3_spreadByOnes_57 hl (k := 6) rfl (nI_1 k) (by decide) rfl (fun ls hl => ?_)
              refine lv_goto (tgt := 17) hx hb dX3_spreadByOnes_60 (by decide) ?_
              exact ih17 (k + 1) f x _ _ _ (by omega) (by omega) (hsg) (by rw [← hh, lp_step (sp_s2 P) (show k < hi + 1 by omega), sp_s2_p0 c3]) (by omega) hP hD hS (lv_sub hl [1, 2, 3, 4, 5, 6, 0] rfl)
            · have c3 := mt (sp_z_le hpk.2).mpr c3
              refine lv_aload_n hx hb dX3_spreadByOnes_38 rfl (lv_at hl 0 rfl) ?_
              refine va_get (D := g.1) (ci := 3) (v := .ref a.2.2.2.2.1) (C := RX3) (T := TX3) (N := 8) hx hb hts inX3 hown hK.1 hP 0 rfl rfl 3 (by decide) (hts _ (List.mem_of_getElem? (i := 2) rfl)) (fun _ h9 => h9) rfl dX3_spreadByOnes_39 ?_
              refine lv_iload hx hb dX3_spreadByOnes_42 (lv_at hl 6 rfl) ?_
              refine lv_dup2_11 hx hb dX3_spreadByOnes_44 rfl rfl ?_
              refine va_iald hx hb hK.1 hP 4 0 rfl rfl (vp_in_nI (by omega) (by omega)) dX3_spreadByOnes_45 ?_
              refine sp_top (y := f k) (congrArg f (sp_c8 (by omega))) ?_
              refine lv_iload hx hb dX3_spreadByOnes_46 (lv_at hl 4 rfl) ?_
              refine lv_iadd hx hb dX3_spreadByOnes_48 ?_
              refine va_iast hx hb hK.1 hP hD hS 4 0 rfl rfl (vp_in_nI (by omega) (by omega)) dX3_spreadByOnes_49 (fun H locs hP hD hS => ?_)
              rw [sp_c8 (k := k) (by omega)] at hP hD
              have hP : va_P g.1 vwCl (twW g a (u.1, u.2.1, u.2.2.1, (upd f k ((f k) + (sp_sg q))), u.2.2.2.2.1, u.2.2.2.2.2.1, u.2.2.2.2.2.2.1, u.2.2.2.2.2.2.2)) H := hP
              have hD : va_D A (twW g a (u.1, u.2.1, u.2.2.1, (upd f k ((f k) + (sp_sg q))), u.2.2.2.2.1, u.2.2.2.2.2.1, u.2.2.2.2.2.2.1, u.2.2.2.2.2.2.2)) := hD
              refine lv_iload hx hb dX3_spreadByOnes_50 (lv_at hl 5 rfl) ?_
              refine lv_iload hx hb dX3_spreadByOnes_52 (lv_at hl 4 rfl) ?_
              refine lv_isub hx hb dX3_spreadByOnes_54 ?_
              refine lv_istore (lv' := [(5, .int (x - (sp_sg q))), (0, .ref a.1), (1, .int (nI lo)), (2, .int (nI hi)), (3, .int q), (4, .int (sp_sg q)), (6, .int (nI k))]) hx hb dX3_spreadByOnes_55 hl (by decide) rfl (fun ls hl => ?_)
              refine lv_iinc (v := nI (k + 1)) (lv' := [(6, .int (nI (k + 1))), (5, .int (x - (sp_sg q))), (0, .ref a.1), (1, .int (nI lo)), (2, .int (nI hi)), (3, .int q), (4, .int (sp_sg q))]) hx hb dX3_spreadByOnes_57 hl (k := 6) rfl (nI_1 k) (by decide) rfl (fun ls hl => ?_)
              refine lv_goto (tgt := 17) hx hb dX3_spreadByOnes_60 (by decide) ?_
              exact ih17 (k + 1) (upd f k (f k + sp_sg q)) (x - sp_sg q) _ _ _ (by omega) (by omega) (by have h5 := sp_sg_step c2; rw [hsq] at h5; exact h5) (by rw [← hh, lp_step (sp_s2 P) (show k < hi + 1 by omega), sp_s2_p1 c3 c2 hsq]) (by omega) hP hD hS (lv_sub hl [2, 3, 4, 5, 6, 1, 0] rfl)
    exact hloop17 (_ + 1) lo u.2.2.2.1 q _ _ _ (Nat.le_refl _) (by omega) (Or.inr rfl) (rfl) (Nat.lt_succ_self _) hP hD hS (lv_sub hl [3, 4, 5, 6, 2, 1, 0] rfl)
  refine lv_iload_n hx hb dX3_spreadByOnes_0 rfl (lv_at hl 3 rfl) ?_
  refine lv_if_ge (tgt := 8) hx hb dX3_spreadByOnes_1 (by decide) (fun c1 => ?_) (fun c1 => ?_)
  · refine lv_iconst (v := nI 1) hx hb dX3_spreadByOnes_8 (by decide) ?_
    refine sp_top (y := sp_sg q) (sp_sg_t c1) ?_
    exact hj9  _ _ _  hP hD hS (lv_sub hl [0, 1, 2, 3] rfl)
  · refine lv_iconst (v := (-1)) hx hb dX3_spreadByOnes_4 (by decide) ?_
    refine lv_goto (tgt := 9) hx hb dX3_spreadByOnes_5 (by decide) ?_
    refine sp_top (y := sp_sg q) (sp_sg_f c1) ?_
    exact hj9  _ _ _  hP hD hS (lv_sub hl [0, 1, 2, 3] rfl)

set_option maxHeartbeats 4000000 in
set_option maxRecDepth 100000 in
theorem c_X3_shareAmong (l : Launch) (g : sp_G) (a : sp_A) (u : sp_U) (t : sp_T) (hR : sp_R u t) (hI : sp_I t) (i : Nat) (hi : i < tn t) (q : Int32) : sp_CV l g yX3_shareAmong wsX3_shareAmong ({ frames := 2, cells := 0, slots := 0, locals := 46 }) [.ref a.1, .int (nI i), .int q] (twW g a u) (fun v : sp_U => sp_R v (sp_shr t i q)) (fun v => twW g a v) := by
  refine sp_CV.of (cc := cX3_shareAmong) (maxL := 11) (by decide) rfl (Nat.le_of_ble_eq_true rfl) ?_
  intro p e s m below meth c Q A ls SF hK hP hD hA hl hend
  have hx := SF.1
  have hb := SF.2.1
  have hown : s.vm.findClass RX3 = some m.cls := SF.2.2.2.1
  have hts := SF.2.2.2.2
  have hS : va_S A s.heap s.heap [] := va_S.rf
  have inX3 : ∀ w ∈ wsX30, w ∈ wsX3_shareAmong := fun w h => List.mem_cons_of_mem _ (List.mem_append_right _ h)
  have hl : lv_has ls 11 [(0, .ref a.1), (1, .int (nI i)), (2, .int q)] := hl
  have hn8 := hI.n
  refine lv_aload_n hx hb dX3_shareAmong_0 rfl (lv_at hl 0 rfl) ?_
  refine lv_iload_n hx hb dX3_shareAmong_1 rfl (lv_at hl 1 rfl) ?_
  refine sp_vi0 (n := 1) SF hK hA (c_X3_lowestOf l g a u t hR hI i (by omega)) gX3_shareAmong_X3_lowestOf rfl rfl rfl (by decide +kernel) rfl ⟨Nat.le_of_ble_eq_true rfl, Nat.le_of_ble_eq_true rfl⟩ 3 0 rfl rfl hP hD hS hl.1 rfl (Nat.le_of_ble_eq_true rfl) dX3_shareAmong_2 (fun r9 u9 H locs w1 hP hD hS => ?_)
  subst w1
  have hP : va_P g.1 vwCl (twW g a u) H := hP
  have hD : va_D A (twW g a u) := hD
  refine lv_istore_n (lv' := [(3, .int (nI (sp_low t i))), (0, .ref a.1), (1, .int (nI i)), (2, .int q)]) hx hb dX3_shareAmong_5 rfl hl (by decide) rfl (fun ls hl => ?_)
  refine lv_iload_n hx hb dX3_shareAmong_6 rfl (lv_at hl 0 rfl) ?_
  have hlw := sp_low_le t i
  have hge := sp_le_hi t i
  have hlt := sp_hi_lt hi
  have hr2 := hI.r
  have hj19 : ∀  (H : Heap) (locs : List Loc) (ls : Array Slot), (sp_gr t i = false) → va_P g.1 vwCl (twW g a u) H → va_D A (twW g a u) → va_S A s.heap H locs → lv_has ls 11 [(0, .ref a.1), (1, .int (nI i)), (2, .int q), (3, .int (nI (sp_low t i)))] → W p l e ({ frames := 2, cells := 0, slots := 0, locals := 46 }) s m ([.ref a.1, .int (nI i), .int q] : List Value).toArray below meth c H locs 0 0 Q (F0 m 19 ls []) := by
    intro  H locs ls hgr hP hD hS hl
    refine lv_aload_n hx hb dX3_shareAmong_19 rfl (lv_at hl 0 rfl) ?_
    refine lv_iload_n hx hb dX3_shareAmong_20 rfl (lv_at hl 1 rfl) ?_
    refine sp_vi0 (n := 1) SF hK hA (c_X3_highestOf l g a u t hR hI i hi) gX3_shareAmong_X3_highestOf rfl rfl rfl (by decide +kernel) rfl ⟨Nat.le_of_ble_eq_true rfl, Nat.le_of_ble_eq_true rfl⟩ 3 0 rfl rfl hP hD hS hl.1 rfl (Nat.le_of_ble_eq_true rfl) dX3_shareAmong_21 (fun r9 u9 H locs w2 hP hD hS => ?_)
    subst w2
    have hP : va_P g.1 vwCl (twW g a u) H := hP
    have hD : va_D A (twW g a u) := hD
    refine lv_istore (lv' := [(4, .int (nI (sp_hi t i))), (0, .ref a.1), (1, .int (nI i)), (2, .int q), (3, .int (nI (sp_low t i)))]) hx hb dX3_shareAmong_24 hl (by decide) rfl (fun ls hl => ?_)
    refine lv_aload_n hx hb dX3_shareAmong_26 rfl (lv_at hl 1 rfl) ?_
    refine va_get (D := g.1) (ci := 3) (v := .ref a.2.1) (C := RX3) (T := TX3) (N := 8) hx hb hts inX3 hown hK.1 hP 0 rfl rfl 0 (by decide) (hts _ (List.mem_of_getElem? (i := 1) rfl)) (fun _ h9 => h9) rfl dX3_shareAmong_27 ?_
    refine lv_iconst (v := nI 3) hx hb dX3_shareAmong_30 (by decide) ?_
    refine va_iald hx hb hK.1 hP 1 0 rfl rfl (vp_in_nI (by omega) (by omega)) dX3_shareAmong_31 ?_
    refine sp_top (y := u.1 3) (congrArg u.1 (sp_c8 (by omega))) ?_
    refine sp_top (y := nI (tr t)) (hR.b3) ?_
    refine lv_istore (lv' := [(5, .int (nI (tr t))), (4, .int (nI (sp_hi t i))), (0, .ref a.1), (1, .int (nI i)), (2, .int q), (3, .int (nI (sp_low t i)))]) hx hb dX3_shareAmong_32 hl (by decide) rfl (fun ls hl => ?_)
    refine lv_lconst (v := lN 0) hx hb dX3_shareAmong_34 (by decide) ?_
    refine lv_lstore (lv' := [(6, .long (lN 0)), (5, .int (nI (tr t))), (4, .int (nI (sp_hi t i))), (0, .ref a.1), (1, .int (nI i)), (2, .int q), (3, .int (nI (sp_low t i)))]) hx hb dX3_shareAmong_35 hl (by decide) rfl (fun ls hl => ?_)
    refine lv_iload_n hx hb dX3_shareAmong_37 rfl (lv_at hl 6 rfl) ?_
    refine lv_istore (lv' := [(8, .int (nI (sp_low t i))), (6, .long (lN 0)), (5, .int (nI (tr t))), (4, .int (nI (sp_hi t i))), (0, .ref a.1), (1, .int (nI i)), (2, .int q), (3, .int (nI (sp_low t i)))]) hx hb dX3_shareAmong_38 hl (by decide) rfl (fun ls hl => ?_)
    have hloop40 : ∀ (n40 : Nat) (k : Nat) (al : Nat) (pf : Nat → Int32) (H : Heap) (locs : List Loc) (ls : Array Slot), (sp_low t i ≤ k) → (k ≤ sp_hi t i + 1) → (∀ j, sp_low t i ≤ j → j < k → pf j = nI (sp_prt t j)) → (lp (sp_als (sp_prt t)) (sp_hi t i + 1 - k) k al = sp_al0 t (sp_low t i) (sp_hi t i)) → (al ≤ 200000 * k) → sp_hi t i + 1 - k < n40 → va_P g.1 vwCl (twW g a (u.1, u.2.1, u.2.2.1, u.2.2.2.1, pf, u.2.2.2.2.2.1, u.2.2.2.2.2.2.1, u.2.2.2.2.2.2.2)) H → va_D A (twW g a (u.1, u.2.1, u.2.2.1, u.2.2.2.1, pf, u.2.2.2.2.2.1, u.2.2.2.2.2.2.1, u.2.2.2.2.2.2.2)) → va_S A s.heap H locs → lv_has ls 11 [(0, .ref a.1), (1, .int (nI i)), (2, .int q), (3, .int (nI (sp_low t i))), (4, .int (nI (sp_hi t i))), (5, .int (nI (tr t))), (6, .long (lN al)), (8, .int (nI k))] → W p l e ({ frames := 2, cells := 0, slots := 0, locals := 46 }) s m ([.ref a.1, .int (nI i), .int q] : List Value).toArray below meth c H locs 0 0 Q (F0 m 40 ls []) := by
      intro n40
      induction n40 with
      | zero =>
        intro k al pf H locs ls hk1 hk2 hpf hal hab h9
        exact absurd h9 (Nat.not_lt_zero _)
      | succ n40 ih40 =>
        intro k al pf H locs ls hk1 hk2 hpf hal hab hm40 hP hD hS hl
        have hpk := sp_prt_le hI k
        have hak := sp_age_le hI k
        refine lv_iload hx hb dX3_shareAmong_40 (lv_at hl 7 rfl) ?_
        refine lv_iload hx hb dX3_shareAmong_42 (lv_at hl 4 rfl) ?_
        refine lv_icmp_gt (tgt := 113) hx hb dX3_shareAmong_44 (by decide) (fun c4 => ?_) (fun c4 => ?_)
        · have c4 := (nI_ltI (by omega) (by omega)).mp c4
          have hal2 : sp_al0 t (sp_low t i) (sp_hi t i) = al := by rw [← hal, lp_end _ (by omega)]
          have hj141 : ∀ (pf : Nat → Int32) (H : Heap) (locs : List Loc) (ls : Array Slot), (∀ j, sp_low t i ≤ j → j ≤ sp_hi t i → pf j = nI ((sp_P t (sp_low t i) (sp_hi t i)) j)) → va_P g.1 vwCl (twW g a (u.1, u.2.1, u.2.2.1, u.2.2.2.1, pf, u.2.2.2.2.2.1, u.2.2.2.2.2.2.1, u.2.2.2.2.2.2.2)) H → va_D A (twW g a (u.1, u.2.1, u.2.2.1, u.2.2.2.1, pf, u.2.2.2.2.2.1, u.2.2.2.2.2.2.1, u.2.2.2.2.2.2.2)) → va_S A s.heap H locs → lv_has ls 11 [(0, .ref a.1), (1, .int (nI i)), (2, .int q), (3, .int (nI (sp_low t i))), (4, .int (nI (sp_hi t i))), (6, .long (lN (sp_al t (sp_low t i) (sp_hi t i))))] → W p l e ({ frames := 2, cells := 0, slots := 0, locals := 46 }) s m ([.ref a.1, .int (nI i), .int q] : List Value).toArray below meth c H locs 0 0 Q (F0 m 141 ls []) := by
            intro pf H locs ls hpf hP hD hS hl
            refine lv_iload_n hx hb dX3_shareAmong_141 rfl (lv_at hl 2 rfl) ?_
            refine lv_istore (lv' := [(8, .int q), (0, .ref a.1), (1, .int (nI i)), (2, .int q), (3, .int (nI (sp_low t i))), (4, .int (nI (sp_hi t i))), (6, .long (lN (sp_al t (sp_low t i) (sp_hi t i))))]) hx hb dX3_shareAmong_142 hl (by decide) rfl (fun ls hl => ?_)
            refine lv_iload_n hx hb dX3_shareAmong_144 rfl (lv_at hl 4 rfl) ?_
            refine lv_istore (lv' := [(9, .int (nI (sp_low t i))), (8, .int q), (0, .ref a.1), (1, .int (nI i)), (2, .int q), (3, .int (nI (sp_low t i))), (4, .int (nI (sp_hi t i))), (6, .long (lN (sp_al t (sp_low t i) (sp_hi t i))))]) hx hb dX3_shareAmong_145 hl (by decide) rfl (fun ls hl => ?_)
            have hloop147 : ∀ (n147 : Nat) (k : Nat) (f : Nat → Int32) (x : Int32) (H : Heap) (locs : List Loc) (ls : Array Slot), (sp_low t i ≤ k) → (k ≤ sp_hi t i + 1) → (lp (sp_s1 q (sp_P t (sp_low t i) (sp_hi t i)) (sp_al t (sp_low t i) (sp_hi t i))) (sp_hi t i + 1 - k) k (f, x) = lp (sp_s1 q (sp_P t (sp_low t i) (sp_hi t i)) (sp_al t (sp_low t i) (sp_hi t i))) (sp_hi t i + 1 - sp_low t i) (sp_low t i) (u.2.2.2.1, q)) → sp_hi t i + 1 - k < n147 → va_P g.1 vwCl (twW g a (u.1, u.2.1, u.2.2.1, f, pf, u.2.2.2.2.2.1, u.2.2.2.2.2.2.1, u.2.2.2.2.2.2.2)) H → va_D A (twW g a (u.1, u.2.1, u.2.2.1, f, pf, u.2.2.2.2.2.1, u.2.2.2.2.2.2.1, u.2.2.2.2.2.2.2)) → va_S A s.heap H locs → lv_has ls 11 [(0, .ref a.1), (2, .int q), (3, .int (nI (sp_low t i))), (4, .int (nI (sp_hi t i))), (6, .long (lN (sp_al t (sp_low t i) (sp_hi t i)))), (8, .int x), (9, .int (nI k))] → W p l e ({ frames := 2, cells := 0, slots := 0, locals := 46 }) s m ([.ref a.1, .int (nI i), .int q] : List Value).toArray below meth c H locs 0 0 Q (F0 m 147 ls []) := by
              intro n147
              induction n147 with
              | zero =>
                intro k f x H locs ls hk1 hk2 hh h9
                exact absurd h9 (Nat.not_lt_zero _)
              | succ n147 ih147 =>
                intro k f x H locs ls hk1 hk2 hh hm147 hP hD hS hl
                refine lv_iload hx hb dX3_shareAmong_147 (lv_at hl 6 rfl) ?_
                refine lv_iload hx hb dX3_shareAmong_149 (lv_at hl 3 rfl) ?_
                refine lv_icmp_gt (tgt := 196) hx hb dX3_shareAmong_151 (by decide) (fun c6 => ?_) (fun c6 => ?_)
                · have c6 := (nI_ltI (by omega) (by omega)).mp c6
                  refine lv_aload_n hx hb dX3_shareAmong_196 rfl (lv_at hl 0 rfl) ?_
                  refine lv_iload_n hx hb dX3_shareAmong_197 rfl (lv_at hl 2 rfl) ?_
                  refine lv_iload hx hb dX3_shareAmong_198 (lv_at hl 3 rfl) ?_
                  refine lv_iload hx hb dX3_shareAmong_200 (lv_at hl 5 rfl) ?_
                  refine sp_vv0 (n := 3) SF hK hA (c_X3_spreadByOnes l g a (u.1, u.2.1, u.2.2.1, f, pf, u.2.2.2.2.2.1, u.2.2.2.2.2.2.1, u.2.2.2.2.2.2.2) (sp_P t (sp_low t i) (sp_hi t i)) (sp_low t i) (sp_hi t i) (by omega) (by omega) (fun j h1 h2 => ⟨hpf j h1 h2, Nat.lt_of_le_of_lt (sp_P_le hI _ _ j) (by omega)⟩) x) gX3_shareAmong_X3_spreadByOnes rfl rfl rfl (by decide +kernel) rfl ⟨Nat.le_of_ble_eq_true rfl, Nat.le_of_ble_eq_true rfl⟩ 3 0 rfl rfl hP hD hS hl.1 rfl (Nat.le_of_ble_eq_true rfl) dX3_shareAmong_202 (fun u9 H locs w3 hP hD hS => ?_)
                  have hP : va_P g.1 vwCl (twW g a (u.1, u.2.1, u.2.2.1, (lp (sp_s2 (sp_P t (sp_low t i) (sp_hi t i))) (sp_hi t i + 1 - sp_low t i) (sp_low t i) (f, x)).1, pf, u.2.2.2.2.2.1, u.2.2.2.2.2.2.1, u.2.2.2.2.2.2.2)) H := hP
                  have hD : va_D A (twW g a (u.1, u.2.1, u.2.2.1, (lp (sp_s2 (sp_P t (sp_low t i) (sp_hi t i))) (sp_hi t i + 1 - sp_low t i) (sp_low t i) (f, x)).1, pf, u.2.2.2.2.2.1, u.2.2.2.2.2.2.1, u.2.2.2.2.2.2.2)) := hD
                  exact hend _ _ _ _ (u.1, u.2.1, u.2.2.1, (lp (sp_s2 (sp_P t (sp_low t i) (sp_hi t i))) (sp_hi t i + 1 - sp_low t i) (sp_low t i) (f, x)).1, pf, u.2.2.2.2.2.1, u.2.2.2.2.2.2.1, u.2.2.2.2.2.2.2) dX3_shareAmong_205 (sp_R_shr hR hi hgr (by rw [← hh, lp_end _ (by omega)])) hP hD hS
                · have c6 := mt (nI_ltI (by omega) (by omega)).mpr c6
                  refine lv_iload_n hx hb dX3_shareAmong_154 rfl (lv_at hl 1 rfl) ?_
                  refine lv_i2l (v := q.toInt64) hx hb dX3_shareAmong_155 (rfl) ?_
                  refine lv_aload_n hx hb dX3_shareAmong_156 rfl (lv_at hl 0 rfl) ?_
                  refine va_get (D := g.1) (ci := 3) (v := .ref a.2.2.2.2.2) (C := RX3) (T := TX3) (N := 8) hx hb hts inX3 hown hK.1 hP 0 rfl rfl 4 (by decide) (hts _ (List.mem_of_getElem? (i := 2) rfl)) (fun _ h9 => h9) rfl dX3_shareAmong_157 ?_
                  refine lv_iload hx hb dX3_shareAmong_160 (lv_at hl 6 rfl) ?_
                  refine va_iald hx hb hK.1 hP 5 0 rfl rfl (vp_in_nI (by omega) (by omega)) dX3_shareAmong_162 ?_
                  refine sp_top (y := pf k) (congrArg pf (sp_c8 (by omega))) ?_
                  refine sp_top (y := nI ((sp_P t (sp_low t i) (sp_hi t i)) k)) (hpf k hk1 (by omega)) ?_
                  refine lv_i2l (v := lN ((sp_P t (sp_low t i) (sp_hi t i)) k)) hx hb dX3_shareAmong_163 (nI_l (Nat.lt_of_le_of_lt (sp_P_le hI _ _ k) (by omega))) ?_
                  refine lv_lmul hx hb dX3_shareAmong_164 ?_
                  refine lv_lload hx hb dX3_shareAmong_165 (lv_at hl 4 rfl) ?_
                  refine lv_ldiv hx hb dX3_shareAmong_167 (sp_lne (sp_al_pos (by omega)) (Nat.lt_of_le_of_lt (sp_al_le hI (by omega)) (by omega))) ?_
                  refine lv_l2i (v := sp_got q ((sp_P t (sp_low t i) (sp_hi t i)) k) (sp_al t (sp_low t i) (sp_hi t i))) hx hb dX3_shareAmong_168 (rfl) ?_
                  refine lv_istore (lv' := [(10, .int (sp_got q ((sp_P t (sp_low t i) (sp_hi t i)) k) (sp_al t (sp_low t i) (sp_hi t i)))), (0, .ref a.1), (2, .int q), (3, .int (nI (sp_low t i))), (4, .int (nI (sp_hi t i))), (6, .long (lN (sp_al t (sp_low t i) (sp_hi t i)))), (8, .int x), (9, .int (nI k))]) hx hb dX3_shareAmong_169 hl (by decide) rfl (fun ls hl => ?_)
                  refine lv_aload_n hx hb dX3_shareAmong_171 rfl (lv_at hl 1 rfl) ?_
                  refine va_get (D := g.1) (ci := 3) (v := .ref a.2.2.2.2.1) (C := RX3) (T := TX3) (N := 8) hx hb hts inX3 hown hK.1 hP 0 rfl rfl 3 (by decide) (hts _ (List.mem_of_getElem? (i := 10) rfl)) (fun _ h9 => h9) rfl dX3_shareAmong_172 ?_
                  refine lv_iload hx hb dX3_shareAmong_175 (lv_at hl 7 rfl) ?_
                  refine lv_dup2_11 hx hb dX3_shareAmong_177 rfl rfl ?_
                  refine va_iald hx hb hK.1 hP 4 0 rfl rfl (vp_in_nI (by omega) (by omega)) dX3_shareAmong_178 ?_
                  refine sp_top (y := f k) (congrArg f (sp_c8 (by omega))) ?_
                  refine lv_iload hx hb dX3_shareAmong_179 (lv_at hl 0 rfl) ?_
                  refine lv_iadd hx hb dX3_shareAmong_181 ?_
                  refine va_iast hx hb hK.1 hP hD hS 4 0 rfl rfl (vp_in_nI (by omega) (by omega)) dX3_shareAmong_182 (fun H locs hP hD hS => ?_)
                  rw [sp_c8 (k := k) (by omega)] at hP hD
                  have hP : va_P g.1 vwCl (twW g a (u.1, u.2.1, u.2.2.1, (upd f k ((f k) + (sp_got q ((sp_P t (sp_low t i) (sp_hi t i)) k) (sp_al t (sp_low t i) (sp_hi t i))))), pf, u.2.2.2.2.2.1, u.2.2.2.2.2.2.1, u.2.2.2.2.2.2.2)) H := hP
                  have hD : va_D A (twW g a (u.1, u.2.1, u.2.2.1, (upd f k ((f k) + (sp_got q ((sp_P t (sp_low t i) (sp_hi t i)) k) (sp_al t (sp_low t i) (sp_hi t i))))), pf, u.2.2.2.2.2.1, u.2.2.2.2.2.2.1, u.2.2.2.2.2.2.2)) := hD
                  refine lv_iload hx hb dX3_shareAmong_183 (lv_at hl 6 rfl) ?_
                  refine lv_iload hx hb dX3_shareAmong_185 (lv_at hl 0 rfl) ?_
                  refine lv_isub hx hb dX3_shareAmong_187 ?_
                  refine lv_istore (lv' := [(8, .int (x - (sp_got q ((sp_P t (sp_low t i) (sp_hi t i)) k) (sp_al t (sp_low t i) (sp_hi t i))))), (10, .int (sp_got q ((sp_P t (sp_low t i) (sp_hi t i)) k) (sp_al t (sp_low t i) (sp_hi t i)))), (0, .ref a.1), (2, .int q), (3, .int (nI (sp_low t i))), (4, .int (nI (sp_hi t i))), (6, .long (lN (sp_al t (sp_low t i) (sp_hi t i)))), (9, .int (nI k))]) hx hb dX3_shareAmong_188 hl (by decide) rfl (fun ls hl => ?_)
                  refine lv_iinc (v := nI (k + 1)) (lv' := [(9, .int (nI (k + 1))), (8, .int (x - (sp_got q ((sp_P t (sp_low t i) (sp_hi t i)) k) (sp_al t (sp_low t i) (sp_hi t i))))), (10, .int (sp_got q ((sp_P t (sp_low t i) (sp_hi t i)) k) (sp_al t (sp_low t i) (sp_hi t i)))), (0, .ref a.1), (2, .int q), (3, .int (nI (sp_low t i))), (4, .int (nI (sp_hi t i))), (6, .long (lN (sp_al t (sp_low t i) (sp_hi t i))))]) hx hb dX3_shareAmong_190 hl (k := 7) rfl (nI_1 k) (by decide) rfl (fun ls hl => ?_)
                  refine lv_goto (tgt := 147) hx hb dX3_shareAmong_193 (by decide) ?_
                  exact ih147 (k + 1) (upd f k (f k + sp_got q ((sp_P t (sp_low t i) (sp_hi t i)) k) (sp_al t (sp_low t i) (sp_hi t i)))) (x - sp_got q ((sp_P t (sp_low t i) (sp_hi t i)) k) (sp_al t (sp_low t i) (sp_hi t i))) _ _ _ (by omega) (by omega) (by rw [← hh, lp_step (sp_s1 q (sp_P t (sp_low t i) (sp_hi t i)) (sp_al t (sp_low t i) (sp_hi t i))) (show k < sp_hi t i + 1 by omega)]; rfl) (by omega) hP hD hS (lv_sub hl [3, 4, 5, 6, 7, 1, 0] rfl)
            exact hloop147 (_ + 1) (sp_low t i) u.2.2.2.1 q _ _ _ (Nat.le_refl _) (by omega) (rfl) (Nat.lt_succ_self _) hP hD hS (lv_sub hl [2, 4, 5, 6, 7, 1, 0] rfl)
          refine lv_lload hx hb dX3_shareAmong_113 (lv_at hl 6 rfl) ?_
          refine lv_lconst (v := lN 0) hx hb dX3_shareAmong_115 (by decide) ?_
          refine W.lcmp hx hb dX3_shareAmong_116 ?_
          refine lv_if_gt (tgt := 141) hx hb dX3_shareAmong_117 (by decide) (fun c5 => ?_) (fun c5 => ?_)
          · have c5 := (sp_cmp (by omega)).mp c5
            have hz : ¬ sp_al0 t (sp_low t i) (sp_hi t i) = 0 := by omega
            have hal3 : al = sp_al t (sp_low t i) (sp_hi t i) := by unfold sp_al; rw [if_neg hz]; exact hal2.symm
            subst hal3
            exact hj141 pf _ _ _ (fun j h1 h2 => by rw [hpf j h1 (by omega)]; unfold sp_P; rw [if_neg hz]) hP hD hS (lv_sub hl [0, 1, 2, 3, 4, 6] rfl)
          · have c5 := mt (sp_cmp (by omega)).mpr c5
            have hz : sp_al0 t (sp_low t i) (sp_hi t i) = 0 := by omega
            refine lv_aload_n hx hb dX3_shareAmong_120 rfl (lv_at hl 0 rfl) ?_
            refine va_get (D := g.1) (ci := 3) (v := .ref a.2.2.2.2.2) (C := RX3) (T := TX3) (N := 8) hx hb hts inX3 hown hK.1 hP 0 rfl rfl 4 (by decide) (hts _ (List.mem_of_getElem? (i := 2) rfl)) (fun _ h9 => h9) rfl dX3_shareAmong_121 ?_
            refine lv_iconst (v := nI 1) hx hb dX3_shareAmong_124 (by decide) ?_
            have hP := sp_P_perm (w2 := arW g a.2.2.2.2.2 pf ++ twH g a (u.1, u.2.1, u.2.2.1, u.2.2.2.1, pf, u.2.2.2.2.2.1, u.2.2.2.2.2.2.1, u.2.2.2.2.2.2.2)) (List.perm_append_comm (l₁ := twH g a (u.1, u.2.1, u.2.2.1, u.2.2.2.1, pf, u.2.2.2.2.2.1, u.2.2.2.2.2.2.1, u.2.2.2.2.2.2.2)) (l₂ := arW g a.2.2.2.2.2 pf)) hP
            have hD := sp_D_perm (w2 := arW g a.2.2.2.2.2 pf ++ twH g a (u.1, u.2.1, u.2.2.1, u.2.2.2.1, pf, u.2.2.2.2.2.1, u.2.2.2.2.2.2.1, u.2.2.2.2.2.2.2)) (List.perm_append_comm (l₁ := twH g a (u.1, u.2.1, u.2.2.1, u.2.2.2.1, pf, u.2.2.2.2.2.1, u.2.2.2.2.2.2.1, u.2.2.2.2.2.2.2)) (l₂ := arW g a.2.2.2.2.2 pf)) hD
            refine sp_sv (n := 2) SF hK hA (c_J7_fill_53178 l g a.2.2.2.2.2 pf (nI 1)) gX3_shareAmong_J7_fill_53178 rfl rfl rfl (by decide +kernel) rfl ⟨Nat.le_of_ble_eq_true rfl, Nat.le_of_ble_eq_true rfl⟩ hP hD hS hl.1 rfl (Nat.le_of_ble_eq_true rfl) dX3_shareAmong_125 (fun pf2 H locs hf2 hP hD hS => ?_)
            have hP := sp_P_perm (List.perm_append_comm (l₁ := arW g a.2.2.2.2.2 pf2) (l₂ := twH g a (u.1, u.2.1, u.2.2.1, u.2.2.2.1, pf, u.2.2.2.2.2.1, u.2.2.2.2.2.2.1, u.2.2.2.2.2.2.2))) hP
            have hD := sp_D_perm (List.perm_append_comm (l₁ := arW g a.2.2.2.2.2 pf2) (l₂ := twH g a (u.1, u.2.1, u.2.2.1, u.2.2.2.1, pf, u.2.2.2.2.2.1, u.2.2.2.2.2.2.1, u.2.2.2.2.2.2.2))) hD
            have hP : va_P g.1 vwCl (twW g a (u.1, u.2.1, u.2.2.1, u.2.2.2.1, pf2, u.2.2.2.2.2.1, u.2.2.2.2.2.2.1, u.2.2.2.2.2.2.2)) H := hP
            have hD : va_D A (twW g a (u.1, u.2.1, u.2.2.1, u.2.2.2.1, pf2, u.2.2.2.2.2.1, u.2.2.2.2.2.2.1, u.2.2.2.2.2.2.2)) := hD
            refine lv_iconst (v := nI 1) hx hb dX3_shareAmong_128 (by decide) ?_
            refine lv_iload hx hb dX3_shareAmong_129 (lv_at hl 4 rfl) ?_
            refine lv_iload_n hx hb dX3_shareAmong_131 rfl (lv_at hl 3 rfl) ?_
            refine lv_isub hx hb dX3_shareAmong_132 ?_
            refine sp_top (y := nI (sp_hi t i - sp_low t i)) (sp_sub (by omega)) ?_
            refine lv_iconst (v := nI 1) hx hb dX3_shareAmong_133 (by decide) ?_
            refine lv_iadd hx hb dX3_shareAmong_134 ?_
            refine sp_top (y := nI ((sp_hi t i - sp_low t i) + 1)) (nI_add _ _) ?_
            refine va_mmax hx hb (by rw [SF.2.2.1]; exact hl.1.symm) hown (hts _ (List.mem_of_getElem? (i := 7) rfl)) (hts _ (List.mem_of_getElem? (i := 8) rfl)) (hts _ (List.mem_of_getElem? (i := 5) rfl)) (hts _ (List.mem_of_getElem? (i := 9) rfl)) (Nat.le_of_ble_eq_true rfl) (Nat.le_of_ble_eq_true rfl) (Nat.zero_le _) (Nat.zero_le _) dX3_shareAmong_135 ?_
            refine sp_top (y := nI (sp_hi t i + 1 - sp_low t i)) (sp_mx (by omega) (by omega)) ?_
            refine lv_i2l (v := lN (sp_al t (sp_low t i) (sp_hi t i))) hx hb dX3_shareAmong_138 (by unfold sp_al; rw [if_pos hz]; exact nI_l (by omega)) ?_
            refine lv_lstore (lv' := [(6, .long (lN (sp_al t (sp_low t i) (sp_hi t i)))), (0, .ref a.1), (1, .int (nI i)), (2, .int q), (3, .int (nI (sp_low t i))), (4, .int (nI (sp_hi t i))), (5, .int (nI (tr t))), (8, .int (nI k))]) hx hb dX3_shareAmong_139 hl (by decide) rfl (fun ls hl => ?_)
            exact hj141 pf2 _ _ _ (fun j h1 h2 => by rw [hf2 j (by omega)]; unfold sp_P; rw [if_pos hz]) hP hD hS (lv_sub hl [1, 2, 3, 4, 5, 0] rfl)
        · have c4 := mt (nI_ltI (by omega) (by omega)).mpr c4
          refine lv_aload_n hx hb dX3_shareAmong_47 rfl (lv_at hl 0 rfl) ?_
          refine lv_iload hx hb dX3_shareAmong_48 (lv_at hl 7 rfl) ?_
          refine sp_vi0 (n := 1) SF hK hA (c_X3_ageOf l g a (u.1, u.2.1, u.2.2.1, u.2.2.2.1, pf, u.2.2.2.2.2.1, u.2.2.2.2.2.2.1, u.2.2.2.2.2.2.2) t hR hI k (by omega)) gX3_shareAmong_X3_ageOf rfl rfl rfl (by decide +kernel) rfl ⟨Nat.le_of_ble_eq_true rfl, Nat.le_of_ble_eq_true rfl⟩ 3 0 rfl rfl hP hD hS hl.1 rfl (Nat.le_of_ble_eq_true rfl) dX3_shareAmong_50 (fun r9 u9 H locs w4 hP hD hS => ?_)
          subst w4
          have hP : va_P g.1 vwCl (twW g a (u.1, u.2.1, u.2.2.1, u.2.2.2.1, pf, u.2.2.2.2.2.1, u.2.2.2.2.2.2.1, u.2.2.2.2.2.2.2)) H := hP
          have hD : va_D A (twW g a (u.1, u.2.1, u.2.2.1, u.2.2.2.1, pf, u.2.2.2.2.2.1, u.2.2.2.2.2.2.1, u.2.2.2.2.2.2.2)) := hD
          refine lv_istore (lv' := [(9, .int (nI (sp_age t k))), (0, .ref a.1), (1, .int (nI i)), (2, .int q), (3, .int (nI (sp_low t i))), (4, .int (nI (sp_hi t i))), (5, .int (nI (tr t))), (6, .long (lN al)), (8, .int (nI k))]) hx hb dX3_shareAmong_53 hl (by decide) rfl (fun ls hl => ?_)
          refine lv_aload_n hx hb dX3_shareAmong_55 rfl (lv_at hl 1 rfl) ?_
          refine va_get (D := g.1) (ci := 3) (v := .ref a.2.2.2.2.2) (C := RX3) (T := TX3) (N := 8) hx hb hts inX3 hown hK.1 hP 0 rfl rfl 4 (by decide) (hts _ (List.mem_of_getElem? (i := 2) rfl)) (fun _ h9 => h9) rfl dX3_shareAmong_56 ?_
          refine lv_iload hx hb dX3_shareAmong_59 (lv_at hl 8 rfl) ?_
          refine lv_iload hx hb dX3_shareAmong_61 (lv_at hl 6 rfl) ?_
          refine lv_iconst (v := nI 1) hx hb dX3_shareAmong_63 (by decide) ?_
          refine lv_icmp_ne (tgt := 76) hx hb dX3_shareAmong_64 (by decide) (fun cr1 => ?_) (fun cr1 => ?_)
          · have cr1 := mt (nI_eq (by omega) (by omega)).mpr cr1
            refine lv_iload hx hb dX3_shareAmong_76 (lv_at hl 6 rfl) ?_
            refine lv_iconst (v := nI 2) hx hb dX3_shareAmong_78 (by decide) ?_
            refine lv_icmp_ne (tgt := 87) hx hb dX3_shareAmong_79 (by decide) (fun cr2 => ?_) (fun cr2 => ?_)
            · have cr2 := mt (nI_eq (by omega) (by omega)).mpr cr2
              refine lv_iload hx hb dX3_shareAmong_87 (lv_at hl 0 rfl) ?_
              refine lv_iconst (v := nI 1) hx hb dX3_shareAmong_89 (by decide) ?_
              refine va_mmin hx hb (by rw [SF.2.2.1]; exact hl.1.symm) hown (hts _ (List.mem_of_getElem? (i := 3) rfl)) (hts _ (List.mem_of_getElem? (i := 4) rfl)) (hts _ (List.mem_of_getElem? (i := 5) rfl)) (hts _ (List.mem_of_getElem? (i := 6) rfl)) (Nat.le_of_ble_eq_true rfl) (Nat.le_of_ble_eq_true rfl) (Nat.zero_le _) (Nat.zero_le _) dX3_shareAmong_90 ?_
              refine sp_top (y := nI (sp_prt t k)) (sp_prt_0 hI cr1 cr2) ?_
              refine va_iast hx hb hK.1 hP hD hS 5 0 rfl rfl (vp_in_nI (by omega) (by omega)) dX3_shareAmong_93 (fun H locs hP hD hS => ?_)
              rw [sp_c8 (k := k) (by omega)] at hP hD
              have hP : va_P g.1 vwCl (twW g a (u.1, u.2.1, u.2.2.1, u.2.2.2.1, (upd pf k (nI (sp_prt t k))), u.2.2.2.2.2.1, u.2.2.2.2.2.2.1, u.2.2.2.2.2.2.2)) H := hP
              have hD : va_D A (twW g a (u.1, u.2.1, u.2.2.1, u.2.2.2.1, (upd pf k (nI (sp_prt t k))), u.2.2.2.2.2.1, u.2.2.2.2.2.2.1, u.2.2.2.2.2.2.2)) := hD
              refine lv_lload hx hb dX3_shareAmong_94 (lv_at hl 7 rfl) ?_
              refine lv_aload_n hx hb dX3_shareAmong_96 rfl (lv_at hl 1 rfl) ?_
              refine va_get (D := g.1) (ci := 3) (v := .ref a.2.2.2.2.2) (C := RX3) (T := TX3) (N := 8) hx hb hts inX3 hown hK.1 hP 0 rfl rfl 4 (by decide) (hts _ (List.mem_of_getElem? (i := 2) rfl)) (fun _ h9 => h9) rfl dX3_shareAmong_97 ?_
              refine lv_iload hx hb dX3_shareAmong_100 (lv_at hl 8 rfl) ?_
              refine va_iald hx hb hK.1 hP 5 0 rfl rfl (vp_in_nI (by omega) (by omega)) dX3_shareAmong_102 ?_
              refine sp_top (y := (upd pf k (nI (sp_prt t k))) k) (congrArg (upd pf k (nI (sp_prt t k))) (sp_c8 (by omega))) ?_
              refine sp_top (y := nI (sp_prt t k)) (sp_upd_s) ?_
              refine lv_i2l (v := lN (sp_prt t k)) hx hb dX3_shareAmong_103 (nI_l (by omega)) ?_
              refine lv_ladd hx hb dX3_shareAmong_104 ?_
              refine sp_top_l (y := lN (al + sp_prt t k)) (lN_add _ _) ?_
              refine lv_lstore (lv' := [(6, .long (lN (al + sp_prt t k))), (9, .int (nI (sp_age t k))), (0, .ref a.1), (1, .int (nI i)), (2, .int q), (3, .int (nI (sp_low t i))), (4, .int (nI (sp_hi t i))), (5, .int (nI (tr t))), (8, .int (nI k))]) hx hb dX3_shareAmong_105 hl (by decide) rfl (fun ls hl => ?_)
              refine lv_iinc (v := nI (k + 1)) (lv' := [(8, .int (nI (k + 1))), (6, .long (lN (al + sp_prt t k))), (9, .int (nI (sp_age t k))), (0, .ref a.1), (1, .int (nI i)), (2, .int q), (3, .int (nI (sp_low t i))), (4, .int (nI (sp_hi t i))), (5, .int (nI (tr t)))]) hx hb dX3_shareAmong_107 hl (k := 8) rfl (nI_1 k) (by decide) rfl (fun ls hl => ?_)
              refine lv_goto (tgt := 40) hx hb dX3_shareAmong_110 (by decide) ?_
              exact ih40 (k + 1) (al + sp_prt t k) (upd pf k (nI (sp_prt t k))) _ _ _ (by omega) (by omega) (sp_upd_ext (F := fun j => nI (sp_prt t j)) hpf rfl) (by rw [← hal, lp_step (sp_als (sp_prt t)) (show k < sp_hi t i + 1 by omega)]; rfl) (by omega) (by omega) hP hD hS (lv_sub hl [3, 4, 5, 6, 7, 8, 1, 0] rfl)
            · have cr2 := (nI_eq (by omega) (by omega)).mp cr2
              refine lv_iload hx hb dX3_shareAmong_82 (lv_at hl 0 rfl) ?_
              refine lv_goto (tgt := 93) hx hb dX3_shareAmong_84 (by decide) ?_
              refine sp_top (y := nI (sp_prt t k)) (congrArg nI (sp_prt_2 cr2)) ?_
              refine va_iast hx hb hK.1 hP hD hS 5 0 rfl rfl (vp_in_nI (by omega) (by omega)) dX3_shareAmong_93 (fun H locs hP hD hS => ?_)
              rw [sp_c8 (k := k) (by omega)] at hP hD
              have hP : va_P g.1 vwCl (twW g a (u.1, u.2.1, u.2.2.1, u.2.2.2.1, (upd pf k (nI (sp_prt t k))), u.2.2.2.2.2.1, u.2.2.2.2.2.2.1, u.2.2.2.2.2.2.2)) H := hP
              have hD : va_D A (twW g a (u.1, u.2.1, u.2.2.1, u.2.2.2.1, (upd pf k (nI (sp_prt t k))), u.2.2.2.2.2.1, u.2.2.2.2.2.2.1, u.2.2.2.2.2.2.2)) := hD
              refine lv_lload hx hb dX3_shareAmong_94 (lv_at hl 7 rfl) ?_
              refine lv_aload_n hx hb dX3_shareAmong_96 rfl (lv_at hl 1 rfl) ?_
              refine va_get (D := g.1) (ci := 3) (v := .ref a.2.2.2.2.2) (C := RX3) (T := TX3) (N := 8) hx hb hts inX3 hown hK.1 hP 0 rfl rfl 4 (by decide) (hts _ (List.mem_of_getElem? (i := 2) rfl)) (fun _ h9 => h9) rfl dX3_shareAmong_97 ?_
              refine lv_iload hx hb dX3_shareAmong_100 (lv_at hl 8 rfl) ?_
              refine va_iald hx hb hK.1 hP 5 0 rfl rfl (vp_in_nI (by omega) (by omega)) dX3_shareAmong_102 ?_
              refine sp_top (y := (upd pf k (nI (sp_prt t k))) k) (congrArg (upd pf k (nI (sp_prt t k))) (sp_c8 (by omega))) ?_
              refine sp_top (y := nI (sp_prt t k)) (sp_upd_s) ?_
              refine lv_i2l (v := lN (sp_prt t k)) hx hb dX3_shareAmong_103 (nI_l (by omega)) ?_
              refine lv_ladd hx hb dX3_shareAmong_104 ?_
              refine sp_top_l (y := lN (al + sp_prt t k)) (lN_add _ _) ?_
              refine lv_lstore (lv' := [(6, .long (lN (al + sp_prt t k))), (9, .int (nI (sp_age t k))), (0, .ref a.1), (1, .int (nI i)), (2, .int q), (3, .int (nI (sp_low t i))), (4, .int (nI (sp_hi t i))), (5, .int (nI (tr t))), (8, .int (nI k))]) hx hb dX3_shareAmong_105 hl (by decide) rfl (fun ls hl => ?_)
              refine lv_iinc (v := nI (k + 1)) (lv' := [(8, .int (nI (k + 1))), (6, .long (lN (al + sp_prt t k))), (9, .int (nI (sp_age t k))), (0, .ref a.1), (1, .int (nI i)), (2, .int q), (3, .int (nI (sp_low t i))), (4, .int (nI (sp_hi t i))), (5, .int (nI (tr t)))]) hx hb dX3_shareAmong_107 hl (k := 8) rfl (nI_1 k) (by decide) rfl (fun ls hl => ?_)
              refine lv_goto (tgt := 40) hx hb dX3_shareAmong_110 (by decide) ?_
              exact ih40 (k + 1) (al + sp_prt t k) (upd pf k (nI (sp_prt t k))) _ _ _ (by omega) (by omega) (sp_upd_ext (F := fun j => nI (sp_prt t j)) hpf rfl) (by rw [← hal, lp_step (sp_als (sp_prt t)) (show k < sp_hi t i + 1 by omega)]; rfl) (by omega) (by omega) hP hD hS (lv_sub hl [3, 4, 5, 6, 7, 8, 1, 0] rfl)
          · have cr1 := (nI_eq (by omega) (by omega)).mp cr1
            refine lv_aload_n hx hb dX3_shareAmong_67 rfl (lv_at hl 1 rfl) ?_
            refine lv_iload hx hb dX3_shareAmong_68 (lv_at hl 8 rfl) ?_
            refine sp_vi0 (n := 1) SF hK hA (c_X3_strengthOf l g a (u.1, u.2.1, u.2.2.1, u.2.2.2.1, pf, u.2.2.2.2.2.1, u.2.2.2.2.2.2.1, u.2.2.2.2.2.2.2) t hR hI k (by omega)) gX3_shareAmong_X3_strengthOf rfl rfl rfl (by decide +kernel) rfl ⟨Nat.le_of_ble_eq_true rfl, Nat.le_of_ble_eq_true rfl⟩ 3 0 rfl rfl hP hD hS hl.1 rfl (Nat.le_of_ble_eq_true rfl) dX3_shareAmong_70 (fun r9 u9 H locs w5 hP hD hS => ?_)
            subst w5
            have hP : va_P g.1 vwCl (twW g a (u.1, u.2.1, u.2.2.1, u.2.2.2.1, pf, u.2.2.2.2.2.1, u.2.2.2.2.2.2.1, u.2.2.2.2.2.2.2)) H := hP
            have hD : va_D A (twW g a (u.1, u.2.1, u.2.2.1, u.2.2.2.1, pf, u.2.2.2.2.2.1, u.2.2.2.2.2.2.1, u.2.2.2.2.2.2.2)) := hD
            refine lv_goto (tgt := 93) hx hb dX3_shareAmong_73 (by decide) ?_
            refine sp_top (y := nI (sp_prt t k)) (congrArg nI (sp_prt_1 cr1)) ?_
            refine va_iast hx hb hK.1 hP hD hS 5 0 rfl rfl (vp_in_nI (by omega) (by omega)) dX3_shareAmong_93 (fun H locs hP hD hS => ?_)
            rw [sp_c8 (k := k) (by omega)] at hP hD
            have hP : va_P g.1 vwCl (twW g a (u.1, u.2.1, u.2.2.1, u.2.2.2.1, (upd pf k (nI (sp_prt t k))), u.2.2.2.2.2.1, u.2.2.2.2.2.2.1, u.2.2.2.2.2.2.2)) H := hP
            have hD : va_D A (twW g a (u.1, u.2.1, u.2.2.1, u.2.2.2.1, (upd pf k (nI (sp_prt t k))), u.2.2.2.2.2.1, u.2.2.2.2.2.2.1, u.2.2.2.2.2.2.2)) := hD
            refine lv_lload hx hb dX3_shareAmong_94 (lv_at hl 7 rfl) ?_
            refine lv_aload_n hx hb dX3_shareAmong_96 rfl (lv_at hl 1 rfl) ?_
            refine va_get (D := g.1) (ci := 3) (v := .ref a.2.2.2.2.2) (C := RX3) (T := TX3) (N := 8) hx hb hts inX3 hown hK.1 hP 0 rfl rfl 4 (by decide) (hts _ (List.mem_of_getElem? (i := 2) rfl)) (fun _ h9 => h9) rfl dX3_shareAmong_97 ?_
            refine lv_iload hx hb dX3_shareAmong_100 (lv_at hl 8 rfl) ?_
            refine va_iald hx hb hK.1 hP 5 0 rfl rfl (vp_in_nI (by omega) (by omega)) dX3_shareAmong_102 ?_
            refine sp_top (y := (upd pf k (nI (sp_prt t k))) k) (congrArg (upd pf k (nI (sp_prt t k))) (sp_c8 (by omega))) ?_
            refine sp_top (y := nI (sp_prt t k)) (sp_upd_s) ?_
            refine lv_i2l (v := lN (sp_prt t k)) hx hb dX3_shareAmong_103 (nI_l (by omega)) ?_
            refine lv_ladd hx hb dX3_shareAmong_104 ?_
            refine sp_top_l (y := lN (al + sp_prt t k)) (lN_add _ _) ?_
            refine lv_lstore (lv' := [(6, .long (lN (al + sp_prt t k))), (9, .int (nI (sp_age t k))), (0, .ref a.1), (1, .int (nI i)), (2, .int q), (3, .int (nI (sp_low t i))), (4, .int (nI (sp_hi t i))), (5, .int (nI (tr t))), (8, .int (nI k))]) hx hb dX3_shareAmong_105 hl (by decide) rfl (fun ls hl => ?_)
            refine lv_iinc (v := nI (k + 1)) (lv' := [(8, .int (nI (k + 1))), (6, .long (lN (al + sp_prt t k))), (9, .int (nI (sp_age t k))), (0, .ref a.1), (1, .int (nI i)), (2, .int q), (3, .int (nI (sp_low t i))), (4, .int (nI (sp_hi t i))), (5, .int (nI (tr t)))]) hx hb dX3_shareAmong_107 hl (k := 8) rfl (nI_1 k) (by decide) rfl (fun ls hl => ?_)
            refine lv_goto (tgt := 40) hx hb dX3_shareAmong_110 (by decide) ?_
            exact ih40 (k + 1) (al + sp_prt t k) (upd pf k (nI (sp_prt t k))) _ _ _ (by omega) (by omega) (sp_upd_ext (F := fun j => nI (sp_prt t j)) hpf rfl) (by rw [← hal, lp_step (sp_als (sp_prt t)) (show k < sp_hi t i + 1 by omega)]; rfl) (by omega) (by omega) hP hD hS (lv_sub hl [3, 4, 5, 6, 7, 8, 1, 0] rfl)
    exact hloop40 (_ + 1) (sp_low t i) 0 u.2.2.2.2.1 _ _ _ (Nat.le_refl _) (by omega) (fun j h1 h2 => absurd h1 (by omega)) (rfl) (Nat.zero_le _) (Nat.lt_succ_self _) hP hD hS (lv_sub hl [4, 5, 6, 7, 3, 2, 1, 0] rfl)
  refine lv_if_ne (tgt := 19) hx hb dX3_shareAmong_7 (by decide) (fun c1 => ?_) (fun c1 => ?_)
  · have c1 := mt (sp_z_eq (by omega)).mpr c1
    exact hj19  _ _ _ (by first | exact sp_gr_f1 c1 | exact sp_gr_f2 (hb0.symm.trans c2)) hP hD hS (lv_sub hl [1, 2, 3, 0] rfl)
  · have c1 := (sp_z_eq (by omega)).mp c1
    refine lv_aload_n hx hb dX3_shareAmong_10 rfl (lv_at hl 1 rfl) ?_
    refine lv_iconst (v := nI 0) hx hb dX3_shareAmong_11 (by decide) ?_
    refine sp_vi0 (n := 1) SF hK hA (c_X3_isPropped l g a u t hR hI 0 (by omega)) gX3_shareAmong_X3_isPropped rfl rfl rfl (by decide +kernel) rfl ⟨Nat.le_of_ble_eq_true rfl, Nat.le_of_ble_eq_true rfl⟩ 3 0 rfl rfl hP hD hS hl.1 rfl (Nat.le_of_ble_eq_true rfl) dX3_shareAmong_12 (fun r9 u9 H locs hb0 hP hD hS => ?_)
    obtain ⟨bb, rfl, hb0⟩ := hb0
    have hP : va_P g.1 vwCl (twW g a u) H := hP
    have hD : va_D A (twW g a u) := hD
    refine lv_if_eq (tgt := 19) hx hb dX3_shareAmong_15 (by decide) (fun c2 => ?_) (fun c2 => ?_)
    · have c2 := sp_b0.mp c2
      exact hj19  _ _ _ (by first | exact sp_gr_f1 c1 | exact sp_gr_f2 (hb0.symm.trans c2)) hP hD hS (lv_sub hl [1, 2, 3, 0] rfl)
    · have c2 := sp_b0n.mp c2
      exact hend _ _ _ _ u dX3_shareAmong_18 (by unfold sp_shr; rw [sp_gr_t c1 (hb0.symm.trans c2)]; exact hR) hP hD hS
end
section
set_option maxHeartbeats 4000000 in
set_option maxRecDepth 100000 in
theorem c_X3_addFloor (l : Launch) (g : sp_G) (a : sp_A) (u : sp_U) (t : sp_T) (hR : sp_R u t) (hI : sp_I t) (hn : tn t < 8) : sp_CV l g yX3_addFloor wsX3_addFloor ({ frames := 3, cells := 0, slots := 0, locals := 76 }) [.ref a.1] (twW g a u) (fun v : sp_U => sp_R v (sp_pour t)) (fun v => twW g a v) := by
  refine sp_CV.of (cc := cX3_addFloor) (maxL := 2) (by decide) rfl (Nat.le_of_ble_eq_true rfl) ?_
  intro p e s m below meth c Q A ls SF hK hP hD hA hl hend
  have hx := SF.1
  have hb := SF.2.1
  have hown : s.vm.findClass RX3 = some m.cls := SF.2.2.2.1
  have hts := SF.2.2.2.2
  have hS : va_S A s.heap s.heap [] := va_S.rf
  have inX3 : ∀ w ∈ wsX30, w ∈ wsX3_addFloor := fun w h => List.mem_cons_of_mem _ (List.mem_append_right _ h)
  have hl : lv_has ls 2 [(0, .ref a.1)] := hl
  have hn8 := hI.n
  refine lv_aload_n hx hb dX3_addFloor_0 rfl (lv_at hl 0 rfl) ?_
  refine va_get (D := g.1) (ci := 3) (v := .int u.2.2.2.2.2.2.1) (C := RX3) (T := TX3) (N := 8) hx hb hts inX3 hown hK.1 hP 0 rfl rfl 6 (by decide) (hts _ (List.mem_of_getElem? (i := 1) rfl)) (fun _ h9 => h9) rfl dX3_addFloor_1 ?_
  refine sp_top (y := nI (tn t)) (hR.cnt) ?_
  refine lv_bipush (v := nI 8) hx hb dX3_addFloor_4 (by decide) ?_
  refine lv_icmp_lt (tgt := 10) hx hb dX3_addFloor_6 (by decide) (fun c1 => ?_) (fun c1 => ?_)
  · have c1 := (nI_ltI (by omega) (by omega)).mp c1
    refine lv_aload_n hx hb dX3_addFloor_10 rfl (lv_at hl 0 rfl) ?_
    refine va_get (D := g.1) (ci := 3) (v := .int u.2.2.2.2.2.2.1) (C := RX3) (T := TX3) (N := 8) hx hb hts inX3 hown hK.1 hP 0 rfl rfl 6 (by decide) (hts _ (List.mem_of_getElem? (i := 1) rfl)) (fun _ h9 => h9) rfl dX3_addFloor_11 ?_
    refine sp_top (y := nI (tn t)) (hR.cnt) ?_
    refine lv_istore_n (lv' := [(1, .int (nI (tn t))), (0, .ref a.1)]) hx hb dX3_addFloor_14 rfl hl (by decide) rfl (fun ls hl => ?_)
    refine lv_aload_n hx hb dX3_addFloor_15 rfl (lv_at hl 1 rfl) ?_
    refine va_get (D := g.1) (ci := 3) (v := .ref a.2.2.1) (C := RX3) (T := TX3) (N := 8) hx hb hts inX3 hown hK.1 hP 0 rfl rfl 1 (by decide) (hts _ (List.mem_of_getElem? (i := 2) rfl)) (fun _ h9 => h9) rfl dX3_addFloor_16 ?_
    refine lv_iload_n hx hb dX3_addFloor_19 rfl (lv_at hl 0 rfl) ?_
    refine lv_aload_n hx hb dX3_addFloor_20 rfl (lv_at hl 1 rfl) ?_
    refine va_get (D := g.1) (ci := 3) (v := .int u.2.2.2.2.2.1) (C := RX3) (T := TX3) (N := 8) hx hb hts inX3 hown hK.1 hP 0 rfl rfl 5 (by decide) (hts _ (List.mem_of_getElem? (i := 3) rfl)) (fun _ h9 => h9) rfl dX3_addFloor_21 ?_
    refine sp_top (y := nI (td t)) (hR.day) ?_
    refine va_iast hx hb hK.1 hP hD hS 2 0 rfl rfl (vp_in_nI (by omega) (by omega)) dX3_addFloor_24 (fun H locs hP hD hS => ?_)
    rw [sp_c8 (k := (tn t)) (by omega)] at hP hD
    have hP : va_P g.1 vwCl (twW g a (u.1, (upd u.2.1 (tn t) (nI (td t))), u.2.2.1, u.2.2.2.1, u.2.2.2.2.1, u.2.2.2.2.2.1, u.2.2.2.2.2.2.1, u.2.2.2.2.2.2.2)) H := hP
    have hD : va_D A (twW g a (u.1, (upd u.2.1 (tn t) (nI (td t))), u.2.2.1, u.2.2.2.1, u.2.2.2.2.1, u.2.2.2.2.2.1, u.2.2.2.2.2.2.1, u.2.2.2.2.2.2.2)) := hD
    refine lv_aload_n hx hb dX3_addFloor_25 rfl (lv_at hl 1 rfl) ?_
    refine va_get (D := g.1) (ci := 3) (v := .ref a.2.2.2.1) (C := RX3) (T := TX3) (N := 8) hx hb hts inX3 hown hK.1 hP 0 rfl rfl 2 (by decide) (hts _ (List.mem_of_getElem? (i := 4) rfl)) (fun _ h9 => h9) rfl dX3_addFloor_26 ?_
    refine lv_iload_n hx hb dX3_addFloor_29 rfl (lv_at hl 0 rfl) ?_
    refine lv_iconst (v := nI 0) hx hb dX3_addFloor_30 (by decide) ?_
    refine va_iast hx hb hK.1 hP hD hS 3 0 rfl rfl (vp_in_nI (by omega) (by omega)) dX3_addFloor_31 (fun H locs hP hD hS => ?_)
    rw [sp_c8 (k := (tn t)) (by omega)] at hP hD
    have hP : va_P g.1 vwCl (twW g a (u.1, (upd u.2.1 (tn t) (nI (td t))), (upd u.2.2.1 (tn t) (nI 0)), u.2.2.2.1, u.2.2.2.2.1, u.2.2.2.2.2.1, u.2.2.2.2.2.2.1, u.2.2.2.2.2.2.2)) H := hP
    have hD : va_D A (twW g a (u.1, (upd u.2.1 (tn t) (nI (td t))), (upd u.2.2.1 (tn t) (nI 0)), u.2.2.2.1, u.2.2.2.2.1, u.2.2.2.2.2.1, u.2.2.2.2.2.2.1, u.2.2.2.2.2.2.2)) := hD
    refine lv_aload_n hx hb dX3_addFloor_32 rfl (lv_at hl 1 rfl) ?_
    refine va_get (D := g.1) (ci := 3) (v := .ref a.2.2.2.2.1) (C := RX3) (T := TX3) (N := 8) hx hb hts inX3 hown hK.1 hP 0 rfl rfl 3 (by decide) (hts _ (List.mem_of_getElem? (i := 5) rfl)) (fun _ h9 => h9) rfl dX3_addFloor_33 ?_
    refine lv_iload_n hx hb dX3_addFloor_36 rfl (lv_at hl 0 rfl) ?_
    refine lv_iconst (v := nI 0) hx hb dX3_addFloor_37 (by decide) ?_
    refine va_iast hx hb hK.1 hP hD hS 4 0 rfl rfl (vp_in_nI (by omega) (by omega)) dX3_addFloor_38 (fun H locs hP hD hS => ?_)
    rw [sp_c8 (k := (tn t)) (by omega)] at hP hD
    have hP : va_P g.1 vwCl (twW g a (u.1, (upd u.2.1 (tn t) (nI (td t))), (upd u.2.2.1 (tn t) (nI 0)), (upd u.2.2.2.1 (tn t) (nI 0)), u.2.2.2.2.1, u.2.2.2.2.2.1, u.2.2.2.2.2.2.1, u.2.2.2.2.2.2.2)) H := hP
    have hD : va_D A (twW g a (u.1, (upd u.2.1 (tn t) (nI (td t))), (upd u.2.2.1 (tn t) (nI 0)), (upd u.2.2.2.1 (tn t) (nI 0)), u.2.2.2.2.1, u.2.2.2.2.2.1, u.2.2.2.2.2.2.1, u.2.2.2.2.2.2.2)) := hD
    refine lv_aload_n hx hb dX3_addFloor_39 rfl (lv_at hl 1 rfl) ?_
    refine lv_dup hx hb dX3_addFloor_40 rfl ?_
    refine va_get (D := g.1) (ci := 3) (v := .int u.2.2.2.2.2.2.1) (C := RX3) (T := TX3) (N := 8) hx hb hts inX3 hown hK.1 hP 0 rfl rfl 6 (by decide) (hts _ (List.mem_of_getElem? (i := 1) rfl)) (fun _ h9 => h9) rfl dX3_addFloor_41 ?_
    refine sp_top (y := nI (tn t)) (hR.cnt) ?_
    refine lv_iconst (v := nI 1) hx hb dX3_addFloor_44 (by decide) ?_
    refine lv_iadd hx hb dX3_addFloor_45 ?_
    refine sp_top (y := nI ((tn t) + 1)) (nI_add _ _) ?_
    refine va_put (D := g.1) (ci := 3) (v := .int (nI ((tn t) + 1))) (ty := .int) (C := RX3) (T := TX3) (N := 8) hx hb hts inX3 tyX3 tyX3_ok nmX3 hown hK.1 hP hD hS 0 rfl rfl 6 (by decide) (hts _ (List.mem_of_getElem? (i := 1) rfl)) (fun _ h9 => h9) rfl (by decide +kernel) rfl rfl (Nat.le_of_ble_eq_true rfl) dX3_addFloor_46 (fun H locs hP hD hS => ?_)
    have hP : va_P g.1 vwCl (twW g a (u.1, (upd u.2.1 (tn t) (nI (td t))), (upd u.2.2.1 (tn t) (nI 0)), (upd u.2.2.2.1 (tn t) (nI 0)), u.2.2.2.2.1, u.2.2.2.2.2.1, (nI ((tn t) + 1)), u.2.2.2.2.2.2.2)) H := hP
    have hD : va_D A (twW g a (u.1, (upd u.2.1 (tn t) (nI (td t))), (upd u.2.2.1 (tn t) (nI 0)), (upd u.2.2.2.1 (tn t) (nI 0)), u.2.2.2.2.1, u.2.2.2.2.2.1, (nI ((tn t) + 1)), u.2.2.2.2.2.2.2)) := hD
    refine lv_aload_n hx hb dX3_addFloor_49 rfl (lv_at hl 1 rfl) ?_
    refine lv_iload_n hx hb dX3_addFloor_50 rfl (lv_at hl 0 rfl) ?_
    refine sp_vv0 (n := 1) SF hK hA (c_X3_putProps l g a (u.1, (upd u.2.1 (tn t) (nI (td t))), (upd u.2.2.1 (tn t) (nI 0)), (upd u.2.2.2.1 (tn t) (nI 0)), u.2.2.2.2.1, u.2.2.2.2.2.1, (nI ((tn t) + 1)), u.2.2.2.2.2.2.2) (tpr t) hI.pr8 hR.prp (tn t) hn) gX3_addFloor_X3_putProps rfl rfl rfl (by decide +kernel) rfl ⟨Nat.le_of_ble_eq_true rfl, Nat.le_of_ble_eq_true rfl⟩ 3 0 rfl rfl hP hD hS hl.1 rfl (Nat.le_of_ble_eq_true rfl) dX3_addFloor_51 (fun u9 H locs w1 hP hD hS => ?_)
    have hP : va_P g.1 vwCl (twW g a (u.1, (upd u.2.1 (tn t) (nI (td t))), (upd u.2.2.1 (tn t) (nI 0)), (upd u.2.2.2.1 (tn t) (nI 0)), u.2.2.2.2.1, u.2.2.2.2.2.1, (nI ((tn t) + 1)), nI (tpr t ||| 2 ^ tn t))) H := hP
    have hD : va_D A (twW g a (u.1, (upd u.2.1 (tn t) (nI (td t))), (upd u.2.2.1 (tn t) (nI 0)), (upd u.2.2.2.1 (tn t) (nI 0)), u.2.2.2.2.1, u.2.2.2.2.2.1, (nI ((tn t) + 1)), nI (tpr t ||| 2 ^ tn t))) := hD
    refine lv_aload_n hx hb dX3_addFloor_54 rfl (lv_at hl 1 rfl) ?_
    refine lv_iload_n hx hb dX3_addFloor_55 rfl (lv_at hl 0 rfl) ?_
    refine lv_aload_n hx hb dX3_addFloor_56 rfl (lv_at hl 1 rfl) ?_
    refine va_get (D := g.1) (ci := 3) (v := .ref a.2.1) (C := RX3) (T := TX3) (N := 8) hx hb hts inX3 hown hK.1 hP 0 rfl rfl 0 (by decide) (hts _ (List.mem_of_getElem? (i := 6) rfl)) (fun _ h9 => h9) rfl dX3_addFloor_57 ?_
    refine lv_iconst (v := nI 0) hx hb dX3_addFloor_60 (by decide) ?_
    refine va_iald hx hb hK.1 hP 1 0 rfl rfl (vp_in_nI (by omega) (by omega)) dX3_addFloor_61 ?_
    refine sp_top (y := u.1 0) (congrArg u.1 (sp_c8 (by omega))) ?_
    refine sp_top (y := nI (tw t)) (hR.b0) ?_
    refine sp_vv0 (n := 2) SF hK hA (c_X3_shareAmong l g a (u.1, (upd u.2.1 (tn t) (nI (td t))), (upd u.2.2.1 (tn t) (nI 0)), (upd u.2.2.2.1 (tn t) (nI 0)), u.2.2.2.2.1, u.2.2.2.2.2.1, (nI ((tn t) + 1)), nI (tpr t ||| 2 ^ tn t)) (sp_new t) (sp_R_new hR hI) (sp_I_new hI hn) (tn t) (Nat.lt_succ_self _) (nI (tw t))) gX3_addFloor_X3_shareAmong rfl rfl rfl (by decide +kernel) rfl ⟨Nat.le_of_ble_eq_true rfl, Nat.le_of_ble_eq_true rfl⟩ 3 0 rfl rfl hP hD hS hl.1 rfl (Nat.le_of_ble_eq_true rfl) dX3_addFloor_62 (fun u9 H locs hw hP hD hS => ?_)
    have hP : va_P g.1 vwCl (twW g a u9) H := hP
    have hD : va_D A (twW g a u9) := hD
    exact hend _ _ _ _ u9 dX3_addFloor_65 (hw) hP hD hS
  · have c1 := mt (nI_ltI (by omega) (by omega)).mpr c1
    exact absurd hn c1

set_option maxHeartbeats 4000000 in
set_option maxRecDepth 100000 in
theorem c_X3_takeProps (l : Launch) (g : sp_G) (a : sp_A) (u : sp_U) (t : sp_T) (hR : sp_R u t) (hI : sp_I t) (i : Nat) (hi : i < tn t) : sp_CV l g yX3_takeProps wsX3_takeProps ({ frames := 3, cells := 0, slots := 0, locals := 76 }) [.ref a.1, .int (nI i)] (twW g a u) (fun v : sp_U => sp_R v (sp_stk t i)) (fun v => twW g a v) := by
  refine sp_CV.of (cc := cX3_takeProps) (maxL := 3) (by decide) rfl (Nat.le_of_ble_eq_true rfl) ?_
  intro p e s m below meth c Q A ls SF hK hP hD hA hl hend
  have hx := SF.1
  have hb := SF.2.1
  have hown : s.vm.findClass RX3 = some m.cls := SF.2.2.2.1
  have hts := SF.2.2.2.2
  have hS : va_S A s.heap s.heap [] := va_S.rf
  have inX3 : ∀ w ∈ wsX30, w ∈ wsX3_takeProps := fun w h => List.mem_cons_of_mem _ (List.mem_append_right _ h)
  have hl : lv_has ls 3 [(0, .ref a.1), (1, .int (nI i))] := hl
  have hn8 := hI.n
  refine lv_aload_n hx hb dX3_takeProps_0 rfl (lv_at hl 0 rfl) ?_
  refine lv_iload_n hx hb dX3_takeProps_1 rfl (lv_at hl 1 rfl) ?_
  refine sp_vi0 (n := 1) SF hK hA (c_X3_has l g a u t hR hI (nI i)) gX3_takeProps_X3_has rfl rfl rfl (by decide +kernel) rfl ⟨Nat.le_of_ble_eq_true rfl, Nat.le_of_ble_eq_true rfl⟩ 3 0 rfl rfl hP hD hS hl.1 rfl (Nat.le_of_ble_eq_true rfl) dX3_takeProps_2 (fun r9 u9 H locs hbb hP hD hS => ?_)
  obtain ⟨bb, rfl, hbb⟩ := hbb
  have hP : va_P g.1 vwCl (twW g a u) H := hP
  have hD : va_D A (twW g a u) := hD
  refine lv_if_ne (tgt := 9) hx hb dX3_takeProps_5 (by decide) (fun c1 => ?_) (fun c1 => ?_)
  · have c1 := sp_b0n.mp c1
    refine lv_aload_n hx hb dX3_takeProps_9 rfl (lv_at hl 0 rfl) ?_
    refine lv_iload_n hx hb dX3_takeProps_10 rfl (lv_at hl 1 rfl) ?_
    refine sp_vi0 (n := 1) SF hK hA (c_X3_forceUnder l g a u t hR hI i hi) gX3_takeProps_X3_forceUnder rfl rfl rfl (by decide +kernel) rfl ⟨Nat.le_of_ble_eq_true rfl, Nat.le_of_ble_eq_true rfl⟩ 3 0 rfl rfl hP hD hS hl.1 rfl (Nat.le_of_ble_eq_true rfl) dX3_takeProps_11 (fun r9 u9 H locs w1 hP hD hS => ?_)
    subst w1
    have hP : va_P g.1 vwCl (twW g a u) H := hP
    have hD : va_D A (twW g a u) := hD
    refine lv_istore_n (lv' := [(2, .int (sp_frc t i)), (0, .ref a.1), (1, .int (nI i))]) hx hb dX3_takeProps_14 rfl hl (by decide) rfl (fun ls hl => ?_)
    refine lv_aload_n hx hb dX3_takeProps_15 rfl (lv_at hl 1 rfl) ?_
    refine lv_dup hx hb dX3_takeProps_16 rfl ?_
    refine va_get (D := g.1) (ci := 3) (v := .int u.2.2.2.2.2.2.2) (C := RX3) (T := TX3) (N := 8) hx hb hts inX3 hown hK.1 hP 0 rfl rfl 7 (by decide) (hts _ (List.mem_of_getElem? (i := 1) rfl)) (fun _ h9 => h9) rfl dX3_takeProps_17 ?_
    refine sp_top (y := nI (tpr t)) (hR.prp) ?_
    refine lv_iconst (v := nI 1) hx hb dX3_takeProps_20 (by decide) ?_
    refine lv_iload_n hx hb dX3_takeProps_21 rfl (lv_at hl 2 rfl) ?_
    refine lv_ishl hx hb dX3_takeProps_22 ?_
    refine lv_iconst (v := (-1)) hx hb dX3_takeProps_23 (by decide) ?_
    refine lv_ixor hx hb dX3_takeProps_24 ?_
    refine lv_iand hx hb dX3_takeProps_25 ?_
    refine sp_top (y := nI (tpr t &&& (255 - 2 ^ i))) (sp_boff _ hI.pr8 i (by omega)) ?_
    refine va_put (D := g.1) (ci := 3) (v := .int (nI (tpr t &&& (255 - 2 ^ i)))) (ty := .int) (C := RX3) (T := TX3) (N := 8) hx hb hts inX3 tyX3 tyX3_ok nmX3 hown hK.1 hP hD hS 0 rfl rfl 7 (by decide) (hts _ (List.mem_of_getElem? (i := 1) rfl)) (fun _ h9 => h9) rfl (by decide +kernel) rfl rfl (Nat.le_of_ble_eq_true rfl) dX3_takeProps_26 (fun H locs hP hD hS => ?_)
    have hP : va_P g.1 vwCl (twW g a (u.1, u.2.1, u.2.2.1, u.2.2.2.1, u.2.2.2.2.1, u.2.2.2.2.2.1, u.2.2.2.2.2.2.1, (nI (tpr t &&& (255 - 2 ^ i))))) H := hP
    have hD : va_D A (twW g a (u.1, u.2.1, u.2.2.1, u.2.2.2.1, u.2.2.2.2.1, u.2.2.2.2.2.1, u.2.2.2.2.2.2.1, (nI (tpr t &&& (255 - 2 ^ i))))) := hD
    refine lv_aload_n hx hb dX3_takeProps_29 rfl (lv_at hl 1 rfl) ?_
    refine lv_iload_n hx hb dX3_takeProps_30 rfl (lv_at hl 2 rfl) ?_
    refine lv_iload_n hx hb dX3_takeProps_31 rfl (lv_at hl 0 rfl) ?_
    refine sp_vv0 (n := 2) SF hK hA (c_X3_shareAmong l g a (u.1, u.2.1, u.2.2.1, u.2.2.2.1, u.2.2.2.2.1, u.2.2.2.2.2.1, u.2.2.2.2.2.2.1, (nI (tpr t &&& (255 - 2 ^ i)))) (sp_off t i) (sp_R_pr hR _) (sp_I_off hI i) i hi (sp_frc t i)) gX3_takeProps_X3_shareAmong rfl rfl rfl (by decide +kernel) rfl ⟨Nat.le_of_ble_eq_true rfl, Nat.le_of_ble_eq_true rfl⟩ 3 0 rfl rfl hP hD hS hl.1 rfl (Nat.le_of_ble_eq_true rfl) dX3_takeProps_32 (fun u9 H locs hw1 hP hD hS => ?_)
    have hP : va_P g.1 vwCl (twW g a u9) H := hP
    have hD : va_D A (twW g a u9) := hD
    refine lv_iload_n hx hb dX3_takeProps_35 rfl (lv_at hl 2 rfl) ?_
    refine lv_if_le (tgt := 48) hx hb dX3_takeProps_36 (by decide) (fun c2 => ?_) (fun c2 => ?_)
    · have c2 := (sp_z_le (by omega)).mp c2
      exact hend _ _ _ _ u9 dX3_takeProps_48 (by unfold sp_stk; first | (rw [if_pos c2]; exact hw1) | (rw [if_neg c2]; exact hw2)) hP hD hS
    · have c2 := mt (sp_z_le (by omega)).mpr c2
      refine lv_aload_n hx hb dX3_takeProps_39 rfl (lv_at hl 1 rfl) ?_
      refine lv_iload_n hx hb dX3_takeProps_40 rfl (lv_at hl 2 rfl) ?_
      refine lv_iconst (v := nI 1) hx hb dX3_takeProps_41 (by decide) ?_
      refine lv_isub hx hb dX3_takeProps_42 ?_
      refine sp_top (y := nI (i - 1)) (sp_sub (by omega)) ?_
      refine lv_iload_n hx hb dX3_takeProps_43 rfl (lv_at hl 0 rfl) ?_
      refine lv_ineg hx hb dX3_takeProps_44 ?_
      refine sp_vv0 (n := 2) SF hK hA (c_X3_shareAmong l g a u9 (sp_stk1 t i) hw1 (sp_I_stk1 hI i) (i - 1) (by rw [show tn (sp_stk1 t i) = tn t from sp_shr_n _ _ _]; omega) (-(sp_frc t i))) gX3_takeProps_X3_shareAmong rfl rfl rfl (by decide +kernel) rfl ⟨Nat.le_of_ble_eq_true rfl, Nat.le_of_ble_eq_true rfl⟩ 3 0 rfl rfl hP hD hS hl.1 rfl (Nat.le_of_ble_eq_true rfl) dX3_takeProps_45 (fun u9 H locs hw2 hP hD hS => ?_)
      have hP : va_P g.1 vwCl (twW g a u9) H := hP
      have hD : va_D A (twW g a u9) := hD
      exact hend _ _ _ _ u9 dX3_takeProps_48 (by unfold sp_stk; first | (rw [if_pos c2]; exact hw1) | (rw [if_neg c2]; exact hw2)) hP hD hS
  · have c1 := sp_b0.mp c1
    exact absurd (c1.symm.trans (hbb.trans (sp_has_n hn8 hi))) (by decide)

set_option maxHeartbeats 4000000 in
set_option maxRecDepth 100000 in
theorem c_X3_copyFrom (l : Launch) (g : sp_G) (a b : sp_A) (u v : sp_U) (t : sp_T) (hR : sp_R v t) (hn8 : tn t ≤ 8) : sp_CV l g yX3_copyFrom wsX3_copyFrom ({ frames := 0, cells := 0, slots := 0, locals := 0 }) [.ref a.1, .ref b.1] (twW g a u ++ (twW g b v)) (fun w : sp_U => sp_R w t) (fun w => twW g a w ++ twW g b v) := by
  refine sp_CV.of (cc := cX3_copyFrom) (maxL := 3) (by decide) rfl (Nat.le_of_ble_eq_true rfl) ?_
  intro p e s m below meth c Q A ls SF hK hP hD hA hl hend
  have hx := SF.1
  have hb := SF.2.1
  have hown : s.vm.findClass RX3 = some m.cls := SF.2.2.2.1
  have hts := SF.2.2.2.2
  have hS : va_S A s.heap s.heap [] := va_S.rf
  have inX3 : ∀ w ∈ wsX30, w ∈ wsX3_copyFrom := fun w h => List.mem_cons_of_mem _ (List.mem_append_right _ h)
  have hl : lv_has ls 3 [(0, .ref a.1), (1, .ref b.1)] := hl
  refine lv_iconst (v := nI 0) hx hb dX3_copyFrom_0 (by decide) ?_
  refine lv_istore_n (lv' := [(2, .int (nI 0)), (0, .ref a.1), (1, .ref b.1)]) hx hb dX3_copyFrom_1 rfl hl (by decide) rfl (fun ls hl => ?_)
  have hloop2 : ∀ (n2 : Nat) (k : Nat) (fb : Nat → Int32) (H : Heap) (locs : List Loc) (ls : Array Slot), (k ≤ 4) → (∀ j, j < k → fb j = v.1 j) → 4 - k < n2 → va_P g.1 vwCl (twW g a (fb, u.2.1, u.2.2.1, u.2.2.2.1, u.2.2.2.2.1, u.2.2.2.2.2.1, u.2.2.2.2.2.2.1, u.2.2.2.2.2.2.2) ++ (twW g b v)) H → va_D A (twW g a (fb, u.2.1, u.2.2.1, u.2.2.2.1, u.2.2.2.2.1, u.2.2.2.2.2.1, u.2.2.2.2.2.2.1, u.2.2.2.2.2.2.2) ++ (twW g b v)) → va_S A s.heap H locs → lv_has ls 3 [(0, .ref a.1), (1, .ref b.1), (2, .int (nI k))] → W p l e ({ frames := 0, cells := 0, slots := 0, locals := 0 }) s m ([.ref a.1, .ref b.1] : List Value).toArray below meth c H locs 0 0 Q (F0 m 2 ls []) := by
    intro n2
    induction n2 with
    | zero =>
      intro k fb H locs ls hk hh h9
      exact absurd h9 (Nat.not_lt_zero _)
    | succ n2 ih2 =>
      intro k fb H locs ls hk hh hm2 hP hD hS hl
      refine lv_iload_n hx hb dX3_copyFrom_2 rfl (lv_at hl 2 rfl) ?_
      refine lv_iconst (v := nI 4) hx hb dX3_copyFrom_3 (by decide) ?_
      refine lv_icmp_ge (tgt := 25) hx hb dX3_copyFrom_4 (by decide) (fun c1 => ?_) (fun c1 => ?_)
      · have c1 := (nI_leI (by omega) (by omega)).mp c1
        refine lv_iconst (v := nI 0) hx hb dX3_copyFrom_25 (by decide) ?_
        refine lv_istore_n (lv' := [(2, .int (nI 0)), (0, .ref a.1), (1, .ref b.1)]) hx hb dX3_copyFrom_26 rfl hl (by decide) rfl (fun ls hl => ?_)
        have hloop27 : ∀ (n27 : Nat) (k : Nat) (fp : Nat → Int32) (fs : Nat → Int32) (fl : Nat → Int32) (H : Heap) (locs : List Loc) (ls : Array Slot), (k ≤ tn t) → (∀ j, j < k → fp j = v.2.1 j) → (∀ j, j < k → fs j = v.2.2.1 j) → (∀ j, j < k → fl j = v.2.2.2.1 j) → tn t - k < n27 → va_P g.1 vwCl (twW g a (fb, fp, fs, fl, u.2.2.2.2.1, u.2.2.2.2.2.1, u.2.2.2.2.2.2.1, u.2.2.2.2.2.2.2) ++ (twW g b v)) H → va_D A (twW g a (fb, fp, fs, fl, u.2.2.2.2.1, u.2.2.2.2.2.1, u.2.2.2.2.2.2.1, u.2.2.2.2.2.2.2) ++ (twW g b v)) → va_S A s.heap H locs → lv_has ls 3 [(0, .ref a.1), (1, .ref b.1), (2, .int (nI k))] → W p l e ({ frames := 0, cells := 0, slots := 0, locals := 0 }) s m ([.ref a.1, .ref b.1] : List Value).toArray below meth c H locs 0 0 Q (F0 m 27 ls []) := by
          intro n27
          induction n27 with
          | zero =>
            intro k fp fs fl H locs ls hk hp hs hf h9
            exact absurd h9 (Nat.not_lt_zero _)
          | succ n27 ih27 =>
            intro k fp fs fl H locs ls hk hp hs hf hm27 hP hD hS hl
            refine lv_iload_n hx hb dX3_copyFrom_27 rfl (lv_at hl 2 rfl) ?_
            refine lv_aload_n hx hb dX3_copyFrom_28 rfl (lv_at hl 1 rfl) ?_
            refine va_get (D := g.1) (ci := 3) (v := .int v.2.2.2.2.2.2.1) (C := RX3) (T := TX3) (N := 8) hx hb hts inX3 hown hK.1 hP 6 rfl rfl 6 (by decide) (hts _ (List.mem_of_getElem? (i := 2) rfl)) (fun _ h9 => h9) rfl dX3_copyFrom_29 ?_
            refine sp_top (y := nI (tn t)) (hR.cnt) ?_
            refine lv_icmp_ge (tgt := 77) hx hb dX3_copyFrom_32 (by decide) (fun c2 => ?_) (fun c2 => ?_)
            · have c2 := (nI_leI (by omega) (by omega)).mp c2
              refine lv_aload_n hx hb dX3_copyFrom_77 rfl (lv_at hl 0 rfl) ?_
              refine lv_aload_n hx hb dX3_copyFrom_78 rfl (lv_at hl 1 rfl) ?_
              refine va_get (D := g.1) (ci := 3) (v := .int v.2.2.2.2.2.1) (C := RX3) (T := TX3) (N := 8) hx hb hts inX3 hown hK.1 hP 6 rfl rfl 5 (by decide) (hts _ (List.mem_of_getElem? (i := 6) rfl)) (fun _ h9 => h9) rfl dX3_copyFrom_79 ?_
              refine va_put (D := g.1) (ci := 3) (v := .int v.2.2.2.2.2.1) (ty := .int) (C := RX3) (T := TX3) (N := 8) hx hb hts inX3 tyX3 tyX3_ok nmX3 hown hK.1 hP hD hS 0 rfl rfl 5 (by decide) (hts _ (List.mem_of_getElem? (i := 6) rfl)) (fun _ h9 => h9) rfl (by decide +kernel) rfl rfl (Nat.le_of_ble_eq_true rfl) dX3_copyFrom_82 (fun H locs hP hD hS => ?_)
              have hP : va_P g.1 vwCl (twW g a (fb, fp, fs, fl, u.2.2.2.2.1, v.2.2.2.2.2.1, u.2.2.2.2.2.2.1, u.2.2.2.2.2.2.2) ++ (twW g b v)) H := hP
              have hD : va_D A (twW g a (fb, fp, fs, fl, u.2.2.2.2.1, v.2.2.2.2.2.1, u.2.2.2.2.2.2.1, u.2.2.2.2.2.2.2) ++ (twW g b v)) := hD
              refine lv_aload_n hx hb dX3_copyFrom_85 rfl (lv_at hl 0 rfl) ?_
              refine lv_aload_n hx hb dX3_copyFrom_86 rfl (lv_at hl 1 rfl) ?_
              refine va_get (D := g.1) (ci := 3) (v := .int v.2.2.2.2.2.2.1) (C := RX3) (T := TX3) (N := 8) hx hb hts inX3 hown hK.1 hP 6 rfl rfl 6 (by decide) (hts _ (List.mem_of_getElem? (i := 2) rfl)) (fun _ h9 => h9) rfl dX3_copyFrom_87 ?_
              refine va_put (D := g.1) (ci := 3) (v := .int v.2.2.2.2.2.2.1) (ty := .int) (C := RX3) (T := TX3) (N := 8) hx hb hts inX3 tyX3 tyX3_ok nmX3 hown hK.1 hP hD hS 0 rfl rfl 6 (by decide) (hts _ (List.mem_of_getElem? (i := 2) rfl)) (fun _ h9 => h9) rfl (by decide +kernel) rfl rfl (Nat.le_of_ble_eq_true rfl) dX3_copyFrom_90 (fun H locs hP hD hS => ?_)
              have hP : va_P g.1 vwCl (twW g a (fb, fp, fs, fl, u.2.2.2.2.1, v.2.2.2.2.2.1, v.2.2.2.2.2.2.1, u.2.2.2.2.2.2.2) ++ (twW g b v)) H := hP
              have hD : va_D A (twW g a (fb, fp, fs, fl, u.2.2.2.2.1, v.2.2.2.2.2.1, v.2.2.2.2.2.2.1, u.2.2.2.2.2.2.2) ++ (twW g b v)) := hD
              refine lv_aload_n hx hb dX3_copyFrom_93 rfl (lv_at hl 0 rfl) ?_
              refine lv_aload_n hx hb dX3_copyFrom_94 rfl (lv_at hl 1 rfl) ?_
              refine va_get (D := g.1) (ci := 3) (v := .int v.2.2.2.2.2.2.2) (C := RX3) (T := TX3) (N := 8) hx hb hts inX3 hown hK.1 hP 6 rfl rfl 7 (by decide) (hts _ (List.mem_of_getElem? (i := 7) rfl)) (fun _ h9 => h9) rfl dX3_copyFrom_95 ?_
              refine va_put (D := g.1) (ci := 3) (v := .int v.2.2.2.2.2.2.2) (ty := .int) (C := RX3) (T := TX3) (N := 8) hx hb hts inX3 tyX3 tyX3_ok nmX3 hown hK.1 hP hD hS 0 rfl rfl 7 (by decide) (hts _ (List.mem_of_getElem? (i := 7) rfl)) (fun _ h9 => h9) rfl (by decide +kernel) rfl rfl (Nat.le_of_ble_eq_true rfl) dX3_copyFrom_98 (fun H locs hP hD hS => ?_)
              have hP : va_P g.1 vwCl (twW g a (fb, fp, fs, fl, u.2.2.2.2.1, v.2.2.2.2.2.1, v.2.2.2.2.2.2.1, v.2.2.2.2.2.2.2) ++ (twW g b v)) H := hP
              have hD : va_D A (twW g a (fb, fp, fs, fl, u.2.2.2.2.1, v.2.2.2.2.2.1, v.2.2.2.2.2.2.1, v.2.2.2.2.2.2.2) ++ (twW g b v)) := hD
              exact hend _ _ _ _ (fb, fp, fs, fl, u.2.2.2.2.1, v.2.2.2.2.2.1, v.2.2.2.2.2.2.1, v.2.2.2.2.2.2.2) dX3_copyFrom_101 (⟨⟨(hh 0 (by omega)).trans hR.b0, (hh 1 (by omega)).trans hR.b1, (hh 2 (by omega)).trans hR.b2, (hh 3 (by omega)).trans hR.b3⟩, fun j hj => (hp j (by omega)).trans (hR.po hj), fun j hj => (hs j (by omega)).trans (hR.sl hj), fun j hj => (hf j (by omega)).trans (hR.lo hj), hR.day, hR.cnt, hR.prp⟩) hP hD hS
            · have c2 := mt (nI_leI (by omega) (by omega)).mpr c2
              refine lv_aload_n hx hb dX3_copyFrom_35 rfl (lv_at hl 0 rfl) ?_
              refine va_get (D := g.1) (ci := 3) (v := .ref a.2.2.1) (C := RX3) (T := TX3) (N := 8) hx hb hts inX3 hown hK.1 hP 0 rfl rfl 1 (by decide) (hts _ (List.mem_of_getElem? (i := 3) rfl)) (fun _ h9 => h9) rfl dX3_copyFrom_36 ?_
              refine lv_iload_n hx hb dX3_copyFrom_39 rfl (lv_at hl 2 rfl) ?_
              refine lv_aload_n hx hb dX3_copyFrom_40 rfl (lv_at hl 1 rfl) ?_
              refine va_get (D := g.1) (ci := 3) (v := .ref b.2.2.1) (C := RX3) (T := TX3) (N := 8) hx hb hts inX3 hown hK.1 hP 6 rfl rfl 1 (by decide) (hts _ (List.mem_of_getElem? (i := 3) rfl)) (fun _ h9 => h9) rfl dX3_copyFrom_41 ?_
              refine lv_iload_n hx hb dX3_copyFrom_44 rfl (lv_at hl 2 rfl) ?_
              refine va_iald hx hb hK.1 hP 8 0 rfl rfl (vp_in_nI (by omega) (by omega)) dX3_copyFrom_45 ?_
              refine sp_top (y := v.2.1 k) (congrArg v.2.1 (sp_c8 (by omega))) ?_
              refine va_iast hx hb hK.1 hP hD hS 2 0 rfl rfl (vp_in_nI (by omega) (by omega)) dX3_copyFrom_46 (fun H locs hP hD hS => ?_)
              rw [sp_c8 (k := k) (by omega)] at hP hD
              have hP : va_P g.1 vwCl (twW g a (fb, (upd fp k (v.2.1 k)), fs, fl, u.2.2.2.2.1, u.2.2.2.2.2.1, u.2.2.2.2.2.2.1, u.2.2.2.2.2.2.2) ++ (twW g b v)) H := hP
              have hD : va_D A (twW g a (fb, (upd fp k (v.2.1 k)), fs, fl, u.2.2.2.2.1, u.2.2.2.2.2.1, u.2.2.2.2.2.2.1, u.2.2.2.2.2.2.2) ++ (twW g b v)) := hD
              refine lv_aload_n hx hb dX3_copyFrom_47 rfl (lv_at hl 0 rfl) ?_
              refine va_get (D := g.1) (ci := 3) (v := .ref a.2.2.2.1) (C := RX3) (T := TX3) (N := 8) hx hb hts inX3 hown hK.1 hP 0 rfl rfl 2 (by decide) (hts _ (List.mem_of_getElem? (i := 4) rfl)) (fun _ h9 => h9) rfl dX3_copyFrom_48 ?_
              refine lv_iload_n hx hb dX3_copyFrom_51 rfl (lv_at hl 2 rfl) ?_
              refine lv_aload_n hx hb dX3_copyFrom_52 rfl (lv_at hl 1 rfl) ?_
              refine va_get (D := g.1) (ci := 3) (v := .ref b.2.2.2.1) (C := RX3) (T := TX3) (N := 8) hx hb hts inX3 hown hK.1 hP 6 rfl rfl 2 (by decide) (hts _ (List.mem_of_getElem? (i := 4) rfl)) (fun _ h9 => h9) rfl dX3_copyFrom_53 ?_
              refine lv_iload_n hx hb dX3_copyFrom_56 rfl (lv_at hl 2 rfl) ?_
              refine va_iald hx hb hK.1 hP 9 0 rfl rfl (vp_in_nI (by omega) (by omega)) dX3_copyFrom_57 ?_
              refine sp_top (y := v.2.2.1 k) (congrArg v.2.2.1 (sp_c8 (by omega))) ?_
              refine va_iast hx hb hK.1 hP hD hS 3 0 rfl rfl (vp_in_nI (by omega) (by omega)) dX3_copyFrom_58 (fun H locs hP hD hS => ?_)
              rw [sp_c8 (k := k) (by omega)] at hP hD
              have hP : va_P g.1 vwCl (twW g a (fb, (upd fp k (v.2.1 k)), (upd fs k (v.2.2.1 k)), fl, u.2.2.2.2.1, u.2.2.2.2.2.1, u.2.2.2.2.2.2.1, u.2.2.2.2.2.2.2) ++ (twW g b v)) H := hP
              have hD : va_D A (twW g a (fb, (upd fp k (v.2.1 k)), (upd fs k (v.2.2.1 k)), fl, u.2.2.2.2.1, u.2.2.2.2.2.1, u.2.2.2.2.2.2.1, u.2.2.2.2.2.2.2) ++ (twW g b v)) := hD
              refine lv_aload_n hx hb dX3_copyFrom_59 rfl (lv_at hl 0 rfl) ?_
              refine va_get (D := g.1) (ci := 3) (v := .ref a.2.2.2.2.1) (C := RX3) (T := TX3) (N := 8) hx hb hts inX3 hown hK.1 hP 0 rfl rfl 3 (by decide) (hts _ (List.mem_of_getElem? (i := 5) rfl)) (fun _ h9 => h9) rfl dX3_copyFrom_60 ?_
              refine lv_iload_n hx hb dX3_copyFrom_63 rfl (lv_at hl 2 rfl) ?_
              refine lv_aload_n hx hb dX3_copyFrom_64 rfl (lv_at hl 1 rfl) ?_
              refine va_get (D := g.1) (ci := 3) (v := .ref b.2.2.2.2.1) (C := RX3) (T := TX3) (N := 8) hx hb hts inX3 hown hK.1 hP 6 rfl rfl 3 (by decide) (hts _ (List.mem_of_getElem? (i := 5) rfl)) (fun _ h9 => h9) rfl dX3_copyFrom_65 ?_
              refine lv_iload_n hx hb dX3_copyFrom_68 rfl (lv_at hl 2 rfl) ?_
              refine va_iald hx hb hK.1 hP 10 0 rfl rfl (vp_in_nI (by omega) (by omega)) dX3_copyFrom_69 ?_
              refine sp_top (y := v.2.2.2.1 k) (congrArg v.2.2.2.1 (sp_c8 (by omega))) ?_
              refine va_iast hx hb hK.1 hP hD hS 4 0 rfl rfl (vp_in_nI (by omega) (by omega)) dX3_copyFrom_70 (fun H locs hP hD hS => ?_)
              rw [sp_c8 (k := k) (by omega)] at hP hD
              have hP : va_P g.1 vwCl (twW g a (fb, (upd fp k (v.2.1 k)), (upd fs k (v.2.2.1 k)), (upd fl k (v.2.2.2.1 k)), u.2.2.2.2.1, u.2.2.2.2.2.1, u.2.2.2.2.2.2.1, u.2.2.2.2.2.2.2) ++ (twW g b v)) H := hP
              have hD : va_D A (twW g a (fb, (upd fp k (v.2.1 k)), (upd fs k (v.2.2.1 k)), (upd fl k (v.2.2.2.1 k)), u.2.2.2.2.1, u.2.2.2.2.2.1, u.2.2.2.2.2.2.1, u.2.2.2.2.2.2.2) ++ (twW g b v)) := hD
              refine lv_iinc (v := nI (k + 1)) (lv' := [(2, .int (nI (k + 1))), (0, .ref a.1), (1, .ref b.1)]) hx hb dX3_copyFrom_71 hl (k := 2) rfl (nI_1 k) (by decide) rfl (fun ls hl => ?_)
              refine lv_goto (tgt := 27) hx hb dX3_copyFrom_74 (by decide) ?_
              exact ih27 (k + 1) (upd fp k (v.2.1 k)) (upd fs k (v.2.2.1 k)) (upd fl k (v.2.2.2.1 k)) _ _ _ (by omega) (sp_upd_ext0 hp rfl) (sp_upd_ext0 hs rfl) (sp_upd_ext0 hf rfl) (by omega) hP hD hS (lv_sub hl [1, 2, 0] rfl)
        exact hloop27 (_ + 1) 0 u.2.1 u.2.2.1 u.2.2.2.1 _ _ _ (by omega) (fun j hj => absurd hj (Nat.not_lt_zero j)) (fun j hj => absurd hj (Nat.not_lt_zero j)) (fun j hj => absurd hj (Nat.not_lt_zero j)) (Nat.lt_succ_self _) hP hD hS (lv_sub hl [1, 2, 0] rfl)
      · have c1 := mt (nI_leI (by omega) (by omega)).mpr c1
        refine lv_aload_n hx hb dX3_copyFrom_7 rfl (lv_at hl 0 rfl) ?_
        refine va_get (D := g.1) (ci := 3) (v := .ref a.2.1) (C := RX3) (T := TX3) (N := 8) hx hb hts inX3 hown hK.1 hP 0 rfl rfl 0 (by decide) (hts _ (List.mem_of_getElem? (i := 1) rfl)) (fun _ h9 => h9) rfl dX3_copyFrom_8 ?_
        refine lv_iload_n hx hb dX3_copyFrom_11 rfl (lv_at hl 2 rfl) ?_
        refine lv_aload_n hx hb dX3_copyFrom_12 rfl (lv_at hl 1 rfl) ?_
        refine va_get (D := g.1) (ci := 3) (v := .ref b.2.1) (C := RX3) (T := TX3) (N := 8) hx hb hts inX3 hown hK.1 hP 6 rfl rfl 0 (by decide) (hts _ (List.mem_of_getElem? (i := 1) rfl)) (fun _ h9 => h9) rfl dX3_copyFrom_13 ?_
        refine lv_iload_n hx hb dX3_copyFrom_16 rfl (lv_at hl 2 rfl) ?_
        refine va_iald hx hb hK.1 hP 7 0 rfl rfl (vp_in_nI (by omega) (by omega)) dX3_copyFrom_17 ?_
        refine sp_top (y := v.1 k) (congrArg v.1 (sp_c8 (by omega))) ?_
        refine va_iast hx hb hK.1 hP hD hS 1 0 rfl rfl (vp_in_nI (by omega) (by omega)) dX3_copyFrom_18 (fun H locs hP hD hS => ?_)
        rw [sp_c8 (k := k) (by omega)] at hP hD
        have hP : va_P g.1 vwCl (twW g a ((upd fb k (v.1 k)), u.2.1, u.2.2.1, u.2.2.2.1, u.2.2.2.2.1, u.2.2.2.2.2.1, u.2.2.2.2.2.2.1, u.2.2.2.2.2.2.2) ++ (twW g b v)) H := hP
        have hD : va_D A (twW g a ((upd fb k (v.1 k)), u.2.1, u.2.2.1, u.2.2.2.1, u.2.2.2.2.1, u.2.2.2.2.2.1, u.2.2.2.2.2.2.1, u.2.2.2.2.2.2.2) ++ (twW g b v)) := hD
        refine lv_iinc (v := nI (k + 1)) (lv' := [(2, .int (nI (k + 1))), (0, .ref a.1), (1, .ref b.1)]) hx hb dX3_copyFrom_19 hl (k := 2) rfl (nI_1 k) (by decide) rfl (fun ls hl => ?_)
        refine lv_goto (tgt := 2) hx hb dX3_copyFrom_22 (by decide) ?_
        exact ih2 (k + 1) (upd fb k (v.1 k)) _ _ _ (by omega) (sp_upd_ext0 hh rfl) (by omega) hP hD hS (lv_sub hl [1, 2, 0] rfl)
  exact hloop2 (_ + 1) 0 u.1 _ _ _ (by omega) (fun j hj => absurd hj (Nat.not_lt_zero j)) (Nat.lt_succ_self _) hP hD hS (lv_sub hl [1, 2, 0] rfl)
end
section
/-! ===== the reference: its cells ===== -/
abbrev sp_V : Type := (Nat → Int32) × (Nat → Int32) × (Nat → Int32) × Int32 × (Nat → Int32) × (Nat → Int64) × (Nat → Int32) × Int64 × (Nat → Int32) × Int32 × (Nat → Int32)
abbrev sp_A9 : Type := Nat × Nat × Nat × Nat × Nat × Nat × Nat × Nat × Nat
def mdW (g : sp_G) (a : sp_A9) (v : sp_V) : va_W := [(a.1, .inr (5, [.ref a.2.1, .ref a.2.2.1, .ref a.2.2.2.1, .int v.2.2.2.1, .ref a.2.2.2.2.1, .ref a.2.2.2.2.2.1, .ref a.2.2.2.2.2.2.1, .long v.2.2.2.2.2.2.2.1, .ref a.2.2.2.2.2.2.2.1, .int v.2.2.2.2.2.2.2.2.2.1, .ref a.2.2.2.2.2.2.2.2])), (a.2.1, .inl (g.2.1, 38, .inl v.1)), (a.2.2.1, .inl (g.2.1, 38, .inl v.2.1)), (a.2.2.2.1, .inl (g.2.1, 760, .inl v.2.2.1)), (a.2.2.2.2.1, .inl (g.2.1, 76, .inl v.2.2.2.2.1)), (a.2.2.2.2.2.1, .inl (g.2.2.1, 2, .inr (.inl v.2.2.2.2.2.1))), (a.2.2.2.2.2.2.1, .inl (g.2.2.2.1, 2, .inl v.2.2.2.2.2.2.1)), (a.2.2.2.2.2.2.2.1, .inl (g.2.1, 40, .inl v.2.2.2.2.2.2.2.2.1)), (a.2.2.2.2.2.2.2.2, .inl (g.2.1, 8, .inl v.2.2.2.2.2.2.2.2.2.2))]
/-- a tower as a row of 38 numbers -/
def sp_Rm (f : Nat → Int32) (t : sp_T) : Prop := f 0 = nI (td t) ∧ f 1 = nI (tn t) ∧ f 2 = nI (tw t) ∧ f 3 = nI (tm t) ∧ f 4 = nI (tt t) ∧ f 5 = nI (tr t) ∧ ∀ k, k < tn t → f (6 + 4 * k + 0) = nI (tpo t k) ∧ f (6 + 4 * k + 1) = nI (tsl t k) ∧ f (6 + 4 * k + 2) = tlo t k ∧ f (6 + 4 * k + 3) = bI (sp_pp t k)
theorem sp_Rm.d {f : Nat → Int32} {t : sp_T} (h : sp_Rm f t) : f 0 = nI (td t) := h.1
theorem sp_Rm.n {f : Nat → Int32} {t : sp_T} (h : sp_Rm f t) : f 1 = nI (tn t) := h.2.1
theorem sp_Rm.w {f : Nat → Int32} {t : sp_T} (h : sp_Rm f t) : f 2 = nI (tw t) := h.2.2.1
theorem sp_Rm.m {f : Nat → Int32} {t : sp_T} (h : sp_Rm f t) : f 3 = nI (tm t) := h.2.2.2.1
theorem sp_Rm.t {f : Nat → Int32} {t : sp_T} (h : sp_Rm f t) : f 4 = nI (tt t) := h.2.2.2.2.1
theorem sp_Rm.r {f : Nat → Int32} {t : sp_T} (h : sp_Rm f t) : f 5 = nI (tr t) := h.2.2.2.2.2.1
theorem sp_Rm.po {f : Nat → Int32} {t : sp_T} (h : sp_Rm f t) {k : Nat} (hk : k < tn t) : f (6 + 4 * k + 0) = nI (tpo t k) := (h.2.2.2.2.2.2 k hk).1
theorem sp_Rm.sl {f : Nat → Int32} {t : sp_T} (h : sp_Rm f t) {k : Nat} (hk : k < tn t) : f (6 + 4 * k + 1) = nI (tsl t k) := (h.2.2.2.2.2.2 k hk).2.1
theorem sp_Rm.lo {f : Nat → Int32} {t : sp_T} (h : sp_Rm f t) {k : Nat} (hk : k < tn t) : f (6 + 4 * k + 2) = tlo t k := (h.2.2.2.2.2.2 k hk).2.2.1
theorem sp_Rm.pp {f : Nat → Int32} {t : sp_T} (h : sp_Rm f t) {k : Nat} (hk : k < tn t) : f (6 + 4 * k + 3) = bI (sp_pp t k) := (h.2.2.2.2.2.2 k hk).2.2.2
def sp_inI (x lo hi : Int32) : Bool := decide (lo ≤ x) && decide (x ≤ hi)
theorem sp_inI_1 {x lo hi : Int32} (h : x < lo) : false = sp_inI x lo hi := by unfold sp_inI; rw [decide_eq_false (Int32.not_le.mpr h)]; rfl
theorem sp_inI_2 {x lo hi : Int32} (h : hi < x) : false = sp_inI x lo hi := by unfold sp_inI; rw [decide_eq_false (Int32.not_le.mpr h), Bool.and_false]
theorem sp_inI_3 {x lo hi : Int32} (h : ¬ x < lo) (h2 : ¬ hi < x) : true = sp_inI x lo hi := by unfold sp_inI; rw [decide_eq_true (Int32.not_lt.mp h), decide_eq_true (Int32.not_lt.mp h2)]; rfl
theorem sp_inI_has {x : Int32} {n : Nat} (hn : n ≤ 8) : sp_inI x (nI 0) (nI n - nI 1) = sp_has x n := by
  have e : (nI n - nI 1).toInt = (n : Int) - 1 := by
    rw [Int32.toInt_sub, nI_toInt (by omega), nI_toInt (by omega)]
    exact sp_bm (by omega) (by omega)
  unfold sp_inI sp_has
  rw [← Bool.decide_and]
  refine decide_eq_decide.mpr ?_
  rw [Int32.le_iff_toInt_le, Int32.le_iff_toInt_le, e, nI_toInt (by omega)]
  omega
theorem sp_hv_min (f F r : Nat) (h : f ≤ F) : sp_hv f r = min f (sp_hv F r) := by
  induction f generalizing F r with
  | zero => simp [sp_hv]
  | succ f ih =>
    obtain ⟨G, rfl⟩ : ∃ G, F = G + 1 := ⟨F - 1, by omega⟩
    simp only [sp_hv]
    split
    · have := ih G (r / 2) (by omega); omega
    · omega
theorem sp_or0 (z : Int32) : z ||| nI 0 = z := by show z ||| 0 = z; simp
theorem sp_frc_step {t : sp_T} {i k : Nat} {z : Int32} (h : k < sp_hi t i + 1) (hp : sp_pp t i = true) (hh : (if sp_pp t i then lp (sp_frs t) (sp_hi t i + 1 - k) k z else z) = sp_frc t i) : (if sp_pp t i then lp (sp_frs t) (sp_hi t i + 1 - (k + 1)) (k + 1) (sp_frs t k z) else sp_frs t k z) = sp_frc t i := by
  rw [← hh, hp, if_pos rfl, if_pos rfl, lp_step (sp_frs t) h]
theorem sp_frc_end {t : sp_T} {i k : Nat} {z : Int32} (h : ¬ k < sp_hi t i + 1 ∨ sp_pp t i = false) (hh : (if sp_pp t i then lp (sp_frs t) (sp_hi t i + 1 - k) k z else z) = sp_frc t i) : z = sp_frc t i := by
  rw [← hh]
  rcases h with h | h
  · rw [lp_end _ (by omega)]; split <;> rfl
  · rw [h]; rfl
theorem sp_hv_32 {r : Nat} (h : r < 2 ^ 32) (h1 : 1 < r) : sp_hv 32 r = 1 + sp_hv 32 (r / 2) := by
  have key : ∀ f r, r < 2 ^ f → sp_hv (f + 1) r = sp_hv f r := by
    intro f
    induction f with
    | zero => intro r hr; simp [sp_hv]; omega
    | succ f ih =>
      intro r hr
      by_cases h1 : 1 < r
      · rw [sp_hv_step (by omega) h1, sp_hv_step (f := f + 1) (by omega) h1]
        exact congrArg (1 + ·) (ih (r / 2) (by omega))
      · rw [sp_hv_end h1, sp_hv_end h1]
  rw [sp_hv_step (by omega) h1, ← key 31 (r / 2) (by omega)]
theorem sp_bI1 {b : Bool} (h : bI b = nI 1) : b = true := by cases b <;> first | rfl | exact absurd h (by decide)
theorem sp_bI0 {b : Bool} (h : ¬ bI b = nI 1) : b = false := by cases b <;> first | rfl | exact absurd rfl h
theorem sp_Rm_lo {h : Nat → Int32} {t : sp_T} {L : Nat → Int32} (hM : sp_Rm h (sp_setlo t L)) (k : Nat) (x : Int32) : sp_Rm (upd h (6 + 4 * k + 2) x) (sp_setlo t (upd L k x)) := by
  obtain ⟨c0, c1, c2, c3, c4, c5, c6⟩ := hM
  have ne : ∀ j, j < 6 → upd h (6 + 4 * k + 2) x j = h j := fun j hj => sp_upd_n (by omega)
  refine ⟨(ne 0 (by omega)).trans c0, (ne 1 (by omega)).trans c1, (ne 2 (by omega)).trans c2, (ne 3 (by omega)).trans c3, (ne 4 (by omega)).trans c4, (ne 5 (by omega)).trans c5, fun j hj => ?_⟩
  obtain ⟨d0, d1, d2, d3⟩ := c6 j hj
  refine ⟨(sp_upd_n (by omega)).trans d0, (sp_upd_n (by omega)).trans d1, ?_, (sp_upd_n (by omega)).trans d3⟩
  show upd h (6 + 4 * k + 2) x (6 + 4 * j + 2) = upd L k x j
  by_cases hz : j = k
  · rw [hz, sp_upd_s, sp_upd_s]
  · rw [sp_upd_n (by omega), sp_upd_n hz]; exact d2
theorem sp_upd_same (L : Nat → Int32) (k : Nat) : upd L k (L k) = L := by
  funext j; unfold upd; split
  · rename_i h; rw [h]
  · rfl
theorem sp_Rm_same {h : Nat → Int32} {t : sp_T} {L : Nat → Int32} (hM : sp_Rm h (sp_setlo t L)) (k : Nat) : sp_Rm (upd h (6 + 4 * k + 2) (L k)) (sp_setlo t L) := by
  have h1 := sp_Rm_lo hM k (L k)
  rw [sp_upd_same] at h1
  exact h1
theorem sp_add0 (x : Int32) : x + nI 0 = x := by show x + 0 = x; simp
theorem sp_sub0 (x : Int32) : x - nI 0 = x := by show x - 0 = x; simp
theorem sp_sg_le {x : Int32} (h0 : ¬ x = 0) (h : x ≤ 0) : (-1 : Int32) = sp_sg x := by
  unfold sp_sg
  rw [if_pos]
  have h3 : (0 : Int32).toInt = 0 := by decide
  have h1 := Int32.le_iff_toInt_le.mp h
  rw [h3] at h1
  have hne : x.toInt ≠ 0 := fun q => h0 (Int32.toInt_inj.mp (by rw [q, h3]))
  exact Int32.lt_iff_toInt_lt.mpr (by rw [h3]; omega)
theorem sp_sg_gt {x : Int32} (h : ¬ x ≤ 0) : nI 1 = sp_sg x := by
  unfold sp_sg
  rw [if_neg]
  · rfl
  · intro q; exact h (Int32.le_of_lt q)
theorem sp_sh_end {t : sp_T} (hI : sp_I t) {lo hi : Nat} (h1 : lo ≤ hi) (h2 : hi < 8) (q : Int32) : (sp_sh2 t lo hi q).2 = 0 := by
  unfold sp_sh2 sp_sh1
  refine sp_share_end q (sp_al_pos h1) (Nat.le_trans (sp_al_le hI h2) (by omega)) (sp_al_sum t lo hi) (fun j a b => sp_P_al t a (by omega)) _
theorem sp_Rm_shr {h : Nat → Int32} {t : sp_T} {i : Nat} {q : Int32} {L : Nat → Int32} {x : Int32} (hgr : sp_gr t i = false) (hM : sp_Rm h (sp_setlo t L)) (he : (L, x) = sp_sh2 t (sp_low t i) (sp_hi t i) q) : sp_Rm h (sp_shr t i q) := by
  unfold sp_shr
  rw [hgr, ← he]
  exact hM
end
section
set_option maxHeartbeats 4000000 in
set_option maxRecDepth 100000 in
theorem c_X5_in (l : Launch) (g : sp_G) (x lo hi : Int32) : sp_CB l g yX5_in wsX5_in ({ frames := 0, cells := 0, slots := 0, locals := 0 }) [.int x, .int lo, .int hi] ([]) (fun b (_ : Unit) => b = sp_inI x lo hi) (fun _ => []) := by
  refine sp_CB.of (cc := cX5_in) (maxL := 3) (by decide) rfl (Nat.le_of_ble_eq_true rfl) ?_
  intro p e s m below meth c Q A ls SF hK hP hD hA hl hend
  have hx := SF.1
  have hb := SF.2.1
  have hown : s.vm.findClass RX5 = some m.cls := SF.2.2.2.1
  have hts := SF.2.2.2.2
  have hS : va_S A s.heap s.heap [] := va_S.rf
  have hl : lv_has ls 3 [(0, .int x), (1, .int lo), (2, .int hi)] := hl
  refine lv_iload_n hx hb dX5_in_0 rfl (lv_at hl 0 rfl) ?_
  refine lv_iload_n hx hb dX5_in_1 rfl (lv_at hl 1 rfl) ?_
  refine lv_icmp_lt (tgt := 14) hx hb dX5_in_2 (by decide) (fun c1 => ?_) (fun c1 => ?_)
  · refine lv_iconst (v := bI false) hx hb dX5_in_14 (by decide) ?_
    exact hend _ _ _ _ false () dX5_in_15 (by first | exact sp_inI_1 c1 | exact sp_inI_2 c2 | exact sp_inI_3 c1 c2) hP hD hS
  · refine lv_iload_n hx hb dX5_in_5 rfl (lv_at hl 0 rfl) ?_
    refine lv_iload_n hx hb dX5_in_6 rfl (lv_at hl 2 rfl) ?_
    refine lv_icmp_gt (tgt := 14) hx hb dX5_in_7 (by decide) (fun c2 => ?_) (fun c2 => ?_)
    · refine lv_iconst (v := bI false) hx hb dX5_in_14 (by decide) ?_
      exact hend _ _ _ _ false () dX5_in_15 (by first | exact sp_inI_1 c1 | exact sp_inI_2 c2 | exact sp_inI_3 c1 c2) hP hD hS
    · refine lv_iconst (v := bI true) hx hb dX5_in_10 (by decide) ?_
      refine lv_goto (tgt := 15) hx hb dX5_in_11 (by decide) ?_
      exact hend _ _ _ _ true () dX5_in_15 (by first | exact sp_inI_1 c1 | exact sp_inI_2 c2 | exact sp_inI_3 c1 c2) hP hD hS

set_option maxHeartbeats 4000000 in
set_option maxRecDepth 100000 in
theorem c_X5_isFloor (l : Launch) (g : sp_G) (a : sp_A9) (v : sp_V) (t : sp_T) (hM : sp_Rm v.1 t) (hI : sp_I t) (x : Int32) : sp_CB l g yX5_isFloor wsX5_isFloor ({ frames := 1, cells := 0, slots := 0, locals := 22 }) [.ref a.1, .int x] (mdW g a v) (fun b (_ : Unit) => b = sp_has x (tn t)) (fun _ => mdW g a v) := by
  refine sp_CB.of (cc := cX5_isFloor) (maxL := 2) (by decide) rfl (Nat.le_of_ble_eq_true rfl) ?_
  intro p e s m below meth c Q A ls SF hK hP hD hA hl hend
  have hx := SF.1
  have hb := SF.2.1
  have hown : s.vm.findClass RX5 = some m.cls := SF.2.2.2.1
  have hts := SF.2.2.2.2
  have hS : va_S A s.heap s.heap [] := va_S.rf
  have inX5 : ∀ w ∈ wsX50, w ∈ wsX5_isFloor := fun w h => List.mem_cons_of_mem _ (List.mem_append_right _ h)
  have hl : lv_has ls 2 [(0, .ref a.1), (1, .int x)] := hl
  have hn8 := hI.n
  refine lv_iload_n hx hb dX5_isFloor_0 rfl (lv_at hl 1 rfl) ?_
  refine lv_iconst (v := nI 0) hx hb dX5_isFloor_1 (by decide) ?_
  refine lv_aload_n hx hb dX5_isFloor_2 rfl (lv_at hl 0 rfl) ?_
  refine va_get (D := g.1) (ci := 5) (v := .ref a.2.1) (C := RX5) (T := TX5) (N := 11) hx hb hts inX5 hown hK.1 hP 0 rfl rfl 0 (by decide) (hts _ (List.mem_of_getElem? (i := 1) rfl)) (fun _ h9 => h9) rfl dX5_isFloor_3 ?_
  refine lv_iconst (v := nI 1) hx hb dX5_isFloor_6 (by decide) ?_
  refine va_iald hx hb hK.1 hP 1 0 rfl rfl (vp_in_nI (by omega) (by omega)) dX5_isFloor_7 ?_
  refine sp_top (y := v.1 1) (congrArg v.1 (sp_c8 (by omega))) ?_
  refine sp_top (y := nI (tn t)) (hM.n) ?_
  refine lv_iconst (v := nI 1) hx hb dX5_isFloor_8 (by decide) ?_
  refine lv_isub hx hb dX5_isFloor_9 ?_
  refine sp_si (n := 3) (wc := []) (wr := (mdW g a v)) SF hK hA (c_X5_in l g x (nI 0) ((nI (tn t)) - (nI 1))) gX5_isFloor_X5_in rfl rfl rfl (by decide +kernel) rfl ⟨Nat.le_of_ble_eq_true rfl, Nat.le_of_ble_eq_true rfl⟩ hP hD hS hl.1 rfl (Nat.le_of_ble_eq_true rfl) dX5_isFloor_10 (fun r9 u9 H locs hbb hP hD hS => ?_)
  obtain ⟨bb, rfl, hbb⟩ := hbb
  have hP : va_P g.1 vwCl (mdW g a v) H := hP
  have hD : va_D A (mdW g a v) := hD
  exact hend _ _ _ _ bb () dX5_isFloor_13 (hbb.trans (sp_inI_has hn8)) hP hD hS

set_option maxHeartbeats 4000000 in
set_option maxRecDepth 100000 in
theorem c_X5_of (l : Launch) (g : sp_G) (a : sp_A9) (v : sp_V) (i w : Nat) (hi : i < 8) (hw : w < 4) : sp_CI l g yX5_of wsX5_of ({ frames := 0, cells := 0, slots := 0, locals := 0 }) [.ref a.1, .int (nI i), .int (nI w)] (mdW g a v) (fun z (_ : Unit) => z = v.1 (6 + 4 * i + w)) (fun _ => mdW g a v) := by
  refine sp_CI.of (cc := cX5_of) (maxL := 3) (by decide) rfl (Nat.le_of_ble_eq_true rfl) ?_
  intro p e s m below meth c Q A ls SF hK hP hD hA hl hend
  have hx := SF.1
  have hb := SF.2.1
  have hown : s.vm.findClass RX5 = some m.cls := SF.2.2.2.1
  have hts := SF.2.2.2.2
  have hS : va_S A s.heap s.heap [] := va_S.rf
  have inX5 : ∀ w ∈ wsX50, w ∈ wsX5_of := fun w h => List.mem_cons_of_mem _ (List.mem_append_right _ h)
  have hl : lv_has ls 3 [(0, .ref a.1), (1, .int (nI i)), (2, .int (nI w))] := hl
  refine lv_aload_n hx hb dX5_of_0 rfl (lv_at hl 0 rfl) ?_
  refine va_get (D := g.1) (ci := 5) (v := .ref a.2.1) (C := RX5) (T := TX5) (N := 11) hx hb hts inX5 hown hK.1 hP 0 rfl rfl 0 (by decide) (hts _ (List.mem_of_getElem? (i := 1) rfl)) (fun _ h9 => h9) rfl dX5_of_1 ?_
  refine lv_bipush (v := nI 6) hx hb dX5_of_4 (by decide) ?_
  refine lv_iconst (v := nI 4) hx hb dX5_of_6 (by decide) ?_
  refine lv_iload_n hx hb dX5_of_7 rfl (lv_at hl 1 rfl) ?_
  refine lv_imul hx hb dX5_of_8 ?_
  refine sp_top (y := nI (4 * i)) (sp_mul _ _) ?_
  refine lv_iadd hx hb dX5_of_9 ?_
  refine sp_top (y := nI (6 + (4 * i))) (nI_add _ _) ?_
  refine lv_iload_n hx hb dX5_of_10 rfl (lv_at hl 2 rfl) ?_
  refine lv_iadd hx hb dX5_of_11 ?_
  refine sp_top (y := nI ((6 + (4 * i)) + w)) (nI_add _ _) ?_
  refine va_iald hx hb hK.1 hP 1 0 rfl rfl (vp_in_nI (by omega) (by omega)) dX5_of_12 ?_
  refine sp_top (y := v.1 ((6 + (4 * i)) + w)) (congrArg v.1 (sp_c8 (by omega))) ?_
  exact hend _ _ _ _ _ () dX5_of_13 (rfl) hP hD hS

set_option maxHeartbeats 4000000 in
set_option maxRecDepth 100000 in
theorem c_X5_put (l : Launch) (g : sp_G) (a : sp_A9) (v : sp_V) (i w : Nat) (hi : i < 8) (hw : w < 4) (x : Int32) : sp_CV l g yX5_put wsX5_put ({ frames := 0, cells := 0, slots := 0, locals := 0 }) [.ref a.1, .int (nI i), .int (nI w), .int x] (mdW g a v) (fun _ : Unit => True) (fun _ => mdW g a (upd v.1 (6 + 4 * i + w) x, v.2)) := by
  refine sp_CV.of (cc := cX5_put) (maxL := 4) (by decide) rfl (Nat.le_of_ble_eq_true rfl) ?_
  intro p e s m below meth c Q A ls SF hK hP hD hA hl hend
  have hx := SF.1
  have hb := SF.2.1
  have hown : s.vm.findClass RX5 = some m.cls := SF.2.2.2.1
  have hts := SF.2.2.2.2
  have hS : va_S A s.heap s.heap [] := va_S.rf
  have inX5 : ∀ w ∈ wsX50, w ∈ wsX5_put := fun w h => List.mem_cons_of_mem _ (List.mem_append_right _ h)
  have hl : lv_has ls 4 [(0, .ref a.1), (1, .int (nI i)), (2, .int (nI w)), (3, .int x)] := hl
  refine lv_aload_n hx hb dX5_put_0 rfl (lv_at hl 0 rfl) ?_
  refine va_get (D := g.1) (ci := 5) (v := .ref a.2.1) (C := RX5) (T := TX5) (N := 11) hx hb hts inX5 hown hK.1 hP 0 rfl rfl 0 (by decide) (hts _ (List.mem_of_getElem? (i := 1) rfl)) (fun _ h9 => h9) rfl dX5_put_1 ?_
  refine lv_bipush (v := nI 6) hx hb dX5_put_4 (by decide) ?_
  refine lv_iconst (v := nI 4) hx hb dX5_put_6 (by decide) ?_
  refine lv_iload_n hx hb dX5_put_7 rfl (lv_at hl 1 rfl) ?_
  refine lv_imul hx hb dX5_put_8 ?_
  refine sp_top (y := nI (4 * i)) (sp_mul _ _) ?_
  refine lv_iadd hx hb dX5_put_9 ?_
  refine sp_top (y := nI (6 + (4 * i))) (nI_add _ _) ?_
  refine lv_iload_n hx hb dX5_put_10 rfl (lv_at hl 2 rfl) ?_
  refine lv_iadd hx hb dX5_put_11 ?_
  refine sp_top (y := nI ((6 + (4 * i)) + w)) (nI_add _ _) ?_
  refine lv_iload_n hx hb dX5_put_12 rfl (lv_at hl 3 rfl) ?_
  refine va_iast hx hb hK.1 hP hD hS 1 0 rfl rfl (vp_in_nI (by omega) (by omega)) dX5_put_13 (fun H locs hP hD hS => ?_)
  rw [sp_c8 (k := ((6 + (4 * i)) + w)) (by omega)] at hP hD
  have hP : va_P g.1 vwCl (mdW g a ((upd v.1 ((6 + (4 * i)) + w) x), v.2.1, v.2.2.1, v.2.2.2.1, v.2.2.2.2.1, v.2.2.2.2.2.1, v.2.2.2.2.2.2.1, v.2.2.2.2.2.2.2.1, v.2.2.2.2.2.2.2.2.1, v.2.2.2.2.2.2.2.2.2.1, v.2.2.2.2.2.2.2.2.2.2)) H := hP
  have hD : va_D A (mdW g a ((upd v.1 ((6 + (4 * i)) + w) x), v.2.1, v.2.2.1, v.2.2.2.1, v.2.2.2.2.1, v.2.2.2.2.2.1, v.2.2.2.2.2.2.1, v.2.2.2.2.2.2.2.1, v.2.2.2.2.2.2.2.2.1, v.2.2.2.2.2.2.2.2.2.1, v.2.2.2.2.2.2.2.2.2.2)) := hD
  exact hend _ _ _ _ () dX5_put_14 (trivial) hP hD hS

set_option maxHeartbeats 4000000 in
set_option maxRecDepth 100000 in
theorem c_X5_lays (l : Launch) (g : sp_G) (a : sp_A9) (v : sp_V) : sp_CV l g yX5_lays wsX5_lays ({ frames := 0, cells := 0, slots := 0, locals := 0 }) [.ref a.1] (mdW g a v) (fun h : Nat → Int32 => ∀ j, j < 38 → h j = v.1 j) (fun h => mdW g a (v.1, h, v.2.2)) := by
  refine sp_CV.of (cc := cX5_lays) (maxL := 2) (by decide) rfl (Nat.le_of_ble_eq_true rfl) ?_
  intro p e s m below meth c Q A ls SF hK hP hD hA hl hend
  have hx := SF.1
  have hb := SF.2.1
  have hown : s.vm.findClass RX5 = some m.cls := SF.2.2.2.1
  have hts := SF.2.2.2.2
  have hS : va_S A s.heap s.heap [] := va_S.rf
  have inX5 : ∀ w ∈ wsX50, w ∈ wsX5_lays := fun w h => List.mem_cons_of_mem _ (List.mem_append_right _ h)
  have hl : lv_has ls 2 [(0, .ref a.1)] := hl
  refine lv_iconst (v := nI 0) hx hb dX5_lays_0 (by decide) ?_
  refine lv_istore_n (lv' := [(1, .int (nI 0)), (0, .ref a.1)]) hx hb dX5_lays_1 rfl hl (by decide) rfl (fun ls hl => ?_)
  have hloop2 : ∀ (n2 : Nat) (k : Nat) (h : Nat → Int32) (H : Heap) (locs : List Loc) (ls : Array Slot), (k ≤ 38) → (∀ j, j < k → h j = v.1 j) → 38 - k < n2 → va_P g.1 vwCl (mdW g a (v.1, h, v.2.2.1, v.2.2.2.1, v.2.2.2.2.1, v.2.2.2.2.2.1, v.2.2.2.2.2.2.1, v.2.2.2.2.2.2.2.1, v.2.2.2.2.2.2.2.2.1, v.2.2.2.2.2.2.2.2.2.1, v.2.2.2.2.2.2.2.2.2.2)) H → va_D A (mdW g a (v.1, h, v.2.2.1, v.2.2.2.1, v.2.2.2.2.1, v.2.2.2.2.2.1, v.2.2.2.2.2.2.1, v.2.2.2.2.2.2.2.1, v.2.2.2.2.2.2.2.2.1, v.2.2.2.2.2.2.2.2.2.1, v.2.2.2.2.2.2.2.2.2.2)) → va_S A s.heap H locs → lv_has ls 2 [(0, .ref a.1), (1, .int (nI k))] → W p l e ({ frames := 0, cells := 0, slots := 0, locals := 0 }) s m ([.ref a.1] : List Value).toArray below meth c H locs 0 0 Q (F0 m 2 ls []) := by
    intro n2
    induction n2 with
    | zero =>
      intro k h H locs ls hk hh h9
      exact absurd h9 (Nat.not_lt_zero _)
    | succ n2 ih2 =>
      intro k h H locs ls hk hh hm2 hP hD hS hl
      refine lv_iload_n hx hb dX5_lays_2 rfl (lv_at hl 1 rfl) ?_
      refine lv_bipush (v := nI 38) hx hb dX5_lays_3 (by decide) ?_
      refine lv_icmp_ge (tgt := 26) hx hb dX5_lays_5 (by decide) (fun c1 => ?_) (fun c1 => ?_)
      · have c1 := (nI_leI (by omega) (by omega)).mp c1
        exact hend _ _ _ _ h dX5_lays_26 (fun j hj => hh j (by omega)) hP hD hS
      · have c1 := mt (nI_leI (by omega) (by omega)).mpr c1
        refine lv_aload_n hx hb dX5_lays_8 rfl (lv_at hl 0 rfl) ?_
        refine va_get (D := g.1) (ci := 5) (v := .ref a.2.2.1) (C := RX5) (T := TX5) (N := 11) hx hb hts inX5 hown hK.1 hP 0 rfl rfl 1 (by decide) (hts _ (List.mem_of_getElem? (i := 1) rfl)) (fun _ h9 => h9) rfl dX5_lays_9 ?_
        refine lv_iload_n hx hb dX5_lays_12 rfl (lv_at hl 1 rfl) ?_
        refine lv_aload_n hx hb dX5_lays_13 rfl (lv_at hl 0 rfl) ?_
        refine va_get (D := g.1) (ci := 5) (v := .ref a.2.1) (C := RX5) (T := TX5) (N := 11) hx hb hts inX5 hown hK.1 hP 0 rfl rfl 0 (by decide) (hts _ (List.mem_of_getElem? (i := 2) rfl)) (fun _ h9 => h9) rfl dX5_lays_14 ?_
        refine lv_iload_n hx hb dX5_lays_17 rfl (lv_at hl 1 rfl) ?_
        refine va_iald hx hb hK.1 hP 1 0 rfl rfl (vp_in_nI (by omega) (by omega)) dX5_lays_18 ?_
        refine sp_top (y := v.1 k) (congrArg v.1 (sp_c8 (by omega))) ?_
        refine va_iast hx hb hK.1 hP hD hS 2 0 rfl rfl (vp_in_nI (by omega) (by omega)) dX5_lays_19 (fun H locs hP hD hS => ?_)
        rw [sp_c8 (k := k) (by omega)] at hP hD
        have hP : va_P g.1 vwCl (mdW g a (v.1, (upd h k (v.1 k)), v.2.2.1, v.2.2.2.1, v.2.2.2.2.1, v.2.2.2.2.2.1, v.2.2.2.2.2.2.1, v.2.2.2.2.2.2.2.1, v.2.2.2.2.2.2.2.2.1, v.2.2.2.2.2.2.2.2.2.1, v.2.2.2.2.2.2.2.2.2.2)) H := hP
        have hD : va_D A (mdW g a (v.1, (upd h k (v.1 k)), v.2.2.1, v.2.2.2.1, v.2.2.2.2.1, v.2.2.2.2.2.1, v.2.2.2.2.2.2.1, v.2.2.2.2.2.2.2.1, v.2.2.2.2.2.2.2.2.1, v.2.2.2.2.2.2.2.2.2.1, v.2.2.2.2.2.2.2.2.2.2)) := hD
        refine lv_iinc (v := nI (k + 1)) (lv' := [(1, .int (nI (k + 1))), (0, .ref a.1)]) hx hb dX5_lays_20 hl (k := 1) rfl (nI_1 k) (by decide) rfl (fun ls hl => ?_)
        refine lv_goto (tgt := 2) hx hb dX5_lays_23 (by decide) ?_
        exact ih2 (k + 1) (upd h k (v.1 k)) _ _ _ (by omega) (sp_upd_ext0 hh rfl) (by omega) hP hD hS (lv_sub hl [1, 0] rfl)
  exact hloop2 (_ + 1) 0 v.2.1 _ _ _ (by omega) (fun j hj => absurd hj (Nat.not_lt_zero j)) (Nat.lt_succ_self _) hP hD hS (lv_sub hl [1, 0] rfl)

set_option maxHeartbeats 4000000 in
set_option maxRecDepth 100000 in
theorem c_X5_takesBack (l : Launch) (g : sp_G) (a : sp_A9) (v : sp_V) : sp_CV l g yX5_takesBack wsX5_takesBack ({ frames := 0, cells := 0, slots := 0, locals := 0 }) [.ref a.1] (mdW g a v) (fun h : Nat → Int32 => ∀ j, j < 38 → h j = v.2.1 j) (fun h => mdW g a (h, v.2)) := by
  refine sp_CV.of (cc := cX5_takesBack) (maxL := 2) (by decide) rfl (Nat.le_of_ble_eq_true rfl) ?_
  intro p e s m below meth c Q A ls SF hK hP hD hA hl hend
  have hx := SF.1
  have hb := SF.2.1
  have hown : s.vm.findClass RX5 = some m.cls := SF.2.2.2.1
  have hts := SF.2.2.2.2
  have hS : va_S A s.heap s.heap [] := va_S.rf
  have inX5 : ∀ w ∈ wsX50, w ∈ wsX5_takesBack := fun w h => List.mem_cons_of_mem _ (List.mem_append_right _ h)
  have hl : lv_has ls 2 [(0, .ref a.1)] := hl
  refine lv_iconst (v := nI 0) hx hb dX5_takesBack_0 (by decide) ?_
  refine lv_istore_n (lv' := [(1, .int (nI 0)), (0, .ref a.1)]) hx hb dX5_takesBack_1 rfl hl (by decide) rfl (fun ls hl => ?_)
  have hloop2 : ∀ (n2 : Nat) (k : Nat) (h : Nat → Int32) (H : Heap) (locs : List Loc) (ls : Array Slot), (k ≤ 38) → (∀ j, j < k → h j = v.2.1 j) → 38 - k < n2 → va_P g.1 vwCl (mdW g a (h, v.2.1, v.2.2.1, v.2.2.2.1, v.2.2.2.2.1, v.2.2.2.2.2.1, v.2.2.2.2.2.2.1, v.2.2.2.2.2.2.2.1, v.2.2.2.2.2.2.2.2.1, v.2.2.2.2.2.2.2.2.2.1, v.2.2.2.2.2.2.2.2.2.2)) H → va_D A (mdW g a (h, v.2.1, v.2.2.1, v.2.2.2.1, v.2.2.2.2.1, v.2.2.2.2.2.1, v.2.2.2.2.2.2.1, v.2.2.2.2.2.2.2.1, v.2.2.2.2.2.2.2.2.1, v.2.2.2.2.2.2.2.2.2.1, v.2.2.2.2.2.2.2.2.2.2)) → va_S A s.heap H locs → lv_has ls 2 [(0, .ref a.1), (1, .int (nI k))] → W p l e ({ frames := 0, cells := 0, slots := 0, locals := 0 }) s m ([.ref a.1] : List Value).toArray below meth c H locs 0 0 Q (F0 m 2 ls []) := by
    intro n2
    induction n2 with
    | zero =>
      intro k h H locs ls hk hh h9
      exact absurd h9 (Nat.not_lt_zero _)
    | succ n2 ih2 =>
      intro k h H locs ls hk hh hm2 hP hD hS hl
      refine lv_iload_n hx hb dX5_takesBack_2 rfl (lv_at hl 1 rfl) ?_
      refine lv_bipush (v := nI 38) hx hb dX5_takesBack_3 (by decide) ?_
      refine lv_icmp_ge (tgt := 26) hx hb dX5_takesBack_5 (by decide) (fun c1 => ?_) (fun c1 => ?_)
      · have c1 := (nI_leI (by omega) (by omega)).mp c1
        exact hend _ _ _ _ h dX5_takesBack_26 (fun j hj => hh j (by omega)) hP hD hS
      · have c1 := mt (nI_leI (by omega) (by omega)).mpr c1
        refine lv_aload_n hx hb dX5_takesBack_8 rfl (lv_at hl 0 rfl) ?_
        refine va_get (D := g.1) (ci := 5) (v := .ref a.2.1) (C := RX5) (T := TX5) (N := 11) hx hb hts inX5 hown hK.1 hP 0 rfl rfl 0 (by decide) (hts _ (List.mem_of_getElem? (i := 1) rfl)) (fun _ h9 => h9) rfl dX5_takesBack_9 ?_
        refine lv_iload_n hx hb dX5_takesBack_12 rfl (lv_at hl 1 rfl) ?_
        refine lv_aload_n hx hb dX5_takesBack_13 rfl (lv_at hl 0 rfl) ?_
        refine va_get (D := g.1) (ci := 5) (v := .ref a.2.2.1) (C := RX5) (T := TX5) (N := 11) hx hb hts inX5 hown hK.1 hP 0 rfl rfl 1 (by decide) (hts _ (List.mem_of_getElem? (i := 2) rfl)) (fun _ h9 => h9) rfl dX5_takesBack_14 ?_
        refine lv_iload_n hx hb dX5_takesBack_17 rfl (lv_at hl 1 rfl) ?_
        refine va_iald hx hb hK.1 hP 2 0 rfl rfl (vp_in_nI (by omega) (by omega)) dX5_takesBack_18 ?_
        refine sp_top (y := v.2.1 k) (congrArg v.2.1 (sp_c8 (by omega))) ?_
        refine va_iast hx hb hK.1 hP hD hS 1 0 rfl rfl (vp_in_nI (by omega) (by omega)) dX5_takesBack_19 (fun H locs hP hD hS => ?_)
        rw [sp_c8 (k := k) (by omega)] at hP hD
        have hP : va_P g.1 vwCl (mdW g a ((upd h k (v.2.1 k)), v.2.1, v.2.2.1, v.2.2.2.1, v.2.2.2.2.1, v.2.2.2.2.2.1, v.2.2.2.2.2.2.1, v.2.2.2.2.2.2.2.1, v.2.2.2.2.2.2.2.2.1, v.2.2.2.2.2.2.2.2.2.1, v.2.2.2.2.2.2.2.2.2.2)) H := hP
        have hD : va_D A (mdW g a ((upd h k (v.2.1 k)), v.2.1, v.2.2.1, v.2.2.2.1, v.2.2.2.2.1, v.2.2.2.2.2.1, v.2.2.2.2.2.2.1, v.2.2.2.2.2.2.2.1, v.2.2.2.2.2.2.2.2.1, v.2.2.2.2.2.2.2.2.2.1, v.2.2.2.2.2.2.2.2.2.2)) := hD
        refine lv_iinc (v := nI (k + 1)) (lv' := [(1, .int (nI (k + 1))), (0, .ref a.1)]) hx hb dX5_takesBack_20 hl (k := 1) rfl (nI_1 k) (by decide) rfl (fun ls hl => ?_)
        refine lv_goto (tgt := 2) hx hb dX5_takesBack_23 (by decide) ?_
        exact ih2 (k + 1) (upd h k (v.2.1 k)) _ _ _ (by omega) (sp_upd_ext0 hh rfl) (by omega) hP hD hS (lv_sub hl [1, 0] rfl)
  exact hloop2 (_ + 1) 0 v.1 _ _ _ (by omega) (fun j hj => absurd hj (Nat.not_lt_zero j)) (Nat.lt_succ_self _) hP hD hS (lv_sub hl [1, 0] rfl)

set_option maxHeartbeats 4000000 in
set_option maxRecDepth 100000 in
theorem c_X5_age (l : Launch) (g : sp_G) (a : sp_A9) (v : sp_V) (t : sp_T) (hM : sp_Rm v.1 t) (hI : sp_I t) (i : Nat) (hi : i < tn t) : sp_CI l g yX5_age wsX5_age ({ frames := 1, cells := 0, slots := 0, locals := 22 }) [.ref a.1, .int (nI i)] (mdW g a v) (fun z (_ : Unit) => z = nI (sp_age t i)) (fun _ => mdW g a v) := by
  refine sp_CI.of (cc := cX5_age) (maxL := 2) (by decide) rfl (Nat.le_of_ble_eq_true rfl) ?_
  intro p e s m below meth c Q A ls SF hK hP hD hA hl hend
  have hx := SF.1
  have hb := SF.2.1
  have hown : s.vm.findClass RX5 = some m.cls := SF.2.2.2.1
  have hts := SF.2.2.2.2
  have hS : va_S A s.heap s.heap [] := va_S.rf
  have inX5 : ∀ w ∈ wsX50, w ∈ wsX5_age := fun w h => List.mem_cons_of_mem _ (List.mem_append_right _ h)
  have hl : lv_has ls 2 [(0, .ref a.1), (1, .int (nI i))] := hl
  have hn8 := hI.n
  refine lv_aload_n hx hb dX5_age_0 rfl (lv_at hl 0 rfl) ?_
  refine va_get (D := g.1) (ci := 5) (v := .ref a.2.1) (C := RX5) (T := TX5) (N := 11) hx hb hts inX5 hown hK.1 hP 0 rfl rfl 0 (by decide) (hts _ (List.mem_of_getElem? (i := 1) rfl)) (fun _ h9 => h9) rfl dX5_age_1 ?_
  refine lv_iconst (v := nI 0) hx hb dX5_age_4 (by decide) ?_
  refine va_iald hx hb hK.1 hP 1 0 rfl rfl (vp_in_nI (by omega) (by omega)) dX5_age_5 ?_
  refine sp_top (y := v.1 0) (congrArg v.1 (sp_c8 (by omega))) ?_
  refine sp_top (y := nI (td t)) (hM.d) ?_
  refine lv_aload_n hx hb dX5_age_6 rfl (lv_at hl 0 rfl) ?_
  refine lv_iload_n hx hb dX5_age_7 rfl (lv_at hl 1 rfl) ?_
  refine lv_iconst (v := nI 0) hx hb dX5_age_8 (by decide) ?_
  refine sp_vi0 (n := 2) SF hK hA (c_X5_of l g a v i 0 (by omega) (by omega)) gX5_age_X5_of rfl rfl rfl (by decide +kernel) rfl ⟨Nat.le_of_ble_eq_true rfl, Nat.le_of_ble_eq_true rfl⟩ 5 0 rfl rfl hP hD hS hl.1 rfl (Nat.le_of_ble_eq_true rfl) dX5_age_9 (fun r9 u9 H locs w1 hP hD hS => ?_)
  subst w1
  refine sp_top (y := nI (tpo t i)) (hM.po hi) ?_
  have hP : va_P g.1 vwCl (mdW g a v) H := hP
  have hD : va_D A (mdW g a v) := hD
  refine lv_isub hx hb dX5_age_12 ?_
  refine sp_top (y := nI (sp_age t i)) (sp_sub (hI.po hi)) ?_
  exact hend _ _ _ _ _ () dX5_age_13 (rfl) hP hD hS

set_option maxHeartbeats 4000000 in
set_option maxRecDepth 100000 in
theorem c_X5_hundredthsBy (l : Launch) (g : sp_G) (tb r : Nat) (htb : tb ≤ 2) (hr : r ≤ 2000000) : sp_CI l g yX5_hundredthsBy wsX5_hundredthsBy ({ frames := 0, cells := 0, slots := 0, locals := 0 }) [.int (nI tb), .int (nI r)] ([]) (fun z (_ : Unit) => z = nI (sp_pct tb r)) (fun _ => []) := by
  refine sp_CI.of (cc := cX5_hundredthsBy) (maxL := 4) (by decide) rfl (Nat.le_of_ble_eq_true rfl) ?_
  intro p e s m below meth c Q A ls SF hK hP hD hA hl hend
  have hx := SF.1
  have hb := SF.2.1
  have hown : s.vm.findClass RX5 = some m.cls := SF.2.2.2.1
  have hts := SF.2.2.2.2
  have hS : va_S A s.heap s.heap [] := va_S.rf
  have hl : lv_has ls 4 [(0, .int (nI tb)), (1, .int (nI r))] := hl
  refine lv_iload_n hx hb dX5_hundredthsBy_0 rfl (lv_at hl 0 rfl) ?_
  refine lv_if_ne (tgt := 13) hx hb dX5_hundredthsBy_1 (by decide) (fun c1 => ?_) (fun c1 => ?_)
  · have c1 := mt (sp_z_eq (by omega)).mpr c1
    refine lv_iload_n hx hb dX5_hundredthsBy_13 rfl (lv_at hl 0 rfl) ?_
    refine lv_iconst (v := nI 1) hx hb dX5_hundredthsBy_14 (by decide) ?_
    refine lv_icmp_ne (tgt := 34) hx hb dX5_hundredthsBy_15 (by decide) (fun c2 => ?_) (fun c2 => ?_)
    · have c2 := mt (nI_eq (by omega) (by omega)).mpr c2
      have htb2 : tb = 2 := by omega
      have hj44 : ∀ (i0 : Nat) (H : Heap) (locs : List Loc) (ls : Array Slot), (i0 = if r = 0 then 0 else 20) → va_P g.1 vwCl ([]) H → va_D A ([]) → va_S A s.heap H locs → lv_has ls 4 [(0, .int (nI tb)), (1, .int (nI r))] → W p l e ({ frames := 0, cells := 0, slots := 0, locals := 0 }) s m ([.int (nI tb), .int (nI r)] : List Value).toArray below meth c H locs 0 0 Q (F0 m 44 ls [.int (nI i0)]) := by
        intro i0 H locs ls hi0 hP hD hS hl
        refine lv_istore_n (lv' := [(2, .int (nI i0)), (0, .int (nI tb)), (1, .int (nI r))]) hx hb dX5_hundredthsBy_44 rfl hl (by decide) rfl (fun ls hl => ?_)
        refine lv_iload_n hx hb dX5_hundredthsBy_45 rfl (lv_at hl 2 rfl) ?_
        refine lv_istore_n (lv' := [(3, .int (nI r)), (2, .int (nI i0)), (0, .int (nI tb)), (1, .int (nI r))]) hx hb dX5_hundredthsBy_46 rfl hl (by decide) rfl (fun ls hl => ?_)
        have hloop47 : ∀ (n47 : Nat) (w : Nat) (rs : Nat) (H : Heap) (locs : List Loc) (ls : Array Slot), (rs ≤ 2000000) → (w + 20 * sp_hv 32 rs = i0 + 20 * sp_hv 32 r) → (rs < 2 ^ 32) → rs < n47 → va_P g.1 vwCl ([]) H → va_D A ([]) → va_S A s.heap H locs → lv_has ls 4 [(0, .int (nI tb)), (1, .int (nI r)), (2, .int (nI w)), (3, .int (nI rs))] → W p l e ({ frames := 0, cells := 0, slots := 0, locals := 0 }) s m ([.int (nI tb), .int (nI r)] : List Value).toArray below meth c H locs 0 0 Q (F0 m 47 ls []) := by
          intro n47
          induction n47 with
          | zero =>
            intro w rs H locs ls hrs hw hw3 h9
            exact absurd h9 (Nat.not_lt_zero _)
          | succ n47 ih47 =>
            intro w rs H locs ls hrs hw hw3 hm47 hP hD hS hl
            have hv32 := sp_hv_le 32 r
            have hi20 : i0 ≤ 20 := by rw [hi0]; split <;> omega
            refine lv_iload_n hx hb dX5_hundredthsBy_47 rfl (lv_at hl 3 rfl) ?_
            refine lv_iconst (v := nI 1) hx hb dX5_hundredthsBy_48 (by decide) ?_
            refine lv_icmp_le (tgt := 62) hx hb dX5_hundredthsBy_49 (by decide) (fun c5 => ?_) (fun c5 => ?_)
            · have c5 := (nI_leI (by omega) (by omega)).mp c5
              refine lv_iload_n hx hb dX5_hundredthsBy_62 rfl (lv_at hl 2 rfl) ?_
              refine lv_bipush (v := nI 100) hx hb dX5_hundredthsBy_63 (by decide) ?_
              refine lv_icmp_le (tgt := 73) hx hb dX5_hundredthsBy_65 (by decide) (fun c6 => ?_) (fun c6 => ?_)
              · have c6 := (nI_leI (by omega) (by omega)).mp c6
                refine lv_iload_n hx hb dX5_hundredthsBy_73 rfl (lv_at hl 2 rfl) ?_
                exact hend _ _ _ _ _ () dX5_hundredthsBy_74 (by rw [sp_hv_end (by omega)] at hw; have h4 := sp_hv_min 4 32 r (by omega); unfold sp_pct; rw [if_neg c1, if_neg c2]; congr 1; by_cases hz : r = 0 <;> (first | rw [if_pos hz] at hi0 ⊢ | rw [if_neg hz] at hi0 ⊢) <;> (try (have h00 := sp_hv_end (f := 32) (r := r) (by omega))) <;> omega) hP hD hS
              · have c6 := mt (nI_leI (by omega) (by omega)).mpr c6
                refine lv_bipush (v := nI 100) hx hb dX5_hundredthsBy_68 (by decide) ?_
                refine lv_goto (tgt := 74) hx hb dX5_hundredthsBy_70 (by decide) ?_
                exact hend _ _ _ _ _ () dX5_hundredthsBy_74 (by rw [sp_hv_end (by omega)] at hw; have h4 := sp_hv_min 4 32 r (by omega); unfold sp_pct; rw [if_neg c1, if_neg c2]; congr 1; by_cases hz : r = 0 <;> (first | rw [if_pos hz] at hi0 ⊢ | rw [if_neg hz] at hi0 ⊢) <;> (try (have h00 := sp_hv_end (f := 32) (r := r) (by omega))) <;> omega) hP hD hS
            · have c5 := mt (nI_leI (by omega) (by omega)).mpr c5
              refine lv_iload_n hx hb dX5_hundredthsBy_52 rfl (lv_at hl 3 rfl) ?_
              refine lv_iconst (v := nI 2) hx hb dX5_hundredthsBy_53 (by decide) ?_
              refine lv_idiv hx hb dX5_hundredthsBy_54 (sp_ne (by omega) (by omega)) ?_
              refine sp_top (y := nI (rs / 2)) (sp_div (by omega) (by omega) (by omega)) ?_
              refine lv_istore_n (lv' := [(3, .int (nI (rs / 2))), (0, .int (nI tb)), (1, .int (nI r)), (2, .int (nI w))]) hx hb dX5_hundredthsBy_55 rfl hl (by decide) rfl (fun ls hl => ?_)
              refine lv_iinc (v := nI (w + 20)) (lv' := [(2, .int (nI (w + 20))), (3, .int (nI (rs / 2))), (0, .int (nI tb)), (1, .int (nI r))]) hx hb dX5_hundredthsBy_56 hl (k := 3) rfl (nI_add w 20) (by decide) rfl (fun ls hl => ?_)
              refine lv_goto (tgt := 47) hx hb dX5_hundredthsBy_59 (by decide) ?_
              exact ih47 (w + 20) (rs / 2) _ _ _ (by omega) (by have h5 := sp_hv_32 (r := rs) (by omega) (by omega); omega) (by omega) (by omega) hP hD hS (lv_sub hl [2, 3, 0, 1] rfl)
        exact hloop47 (_ + 1) i0 r _ _ _ (hr) (rfl) (by omega) (Nat.lt_succ_self _) hP hD hS (lv_sub hl [2, 3, 1, 0] rfl)
      refine lv_iload_n hx hb dX5_hundredthsBy_34 rfl (lv_at hl 1 rfl) ?_
      refine lv_if_ne (tgt := 42) hx hb dX5_hundredthsBy_35 (by decide) (fun c3 => ?_) (fun c3 => ?_)
      · have c3 := mt (sp_z_eq (by omega)).mpr c3
        refine lv_bipush (v := nI 20) hx hb dX5_hundredthsBy_42 (by decide) ?_
        exact hj44 20 _ _ _ (by first | rw [if_pos c3] | rw [if_neg c3]) hP hD hS (lv_sub hl [0, 1] rfl)
      · have c3 := (sp_z_eq (by omega)).mp c3
        refine lv_iconst (v := nI 0) hx hb dX5_hundredthsBy_38 (by decide) ?_
        refine lv_goto (tgt := 44) hx hb dX5_hundredthsBy_39 (by decide) ?_
        exact hj44 0 _ _ _ (by first | rw [if_pos c3] | rw [if_neg c3]) hP hD hS (lv_sub hl [0, 1] rfl)
    · have c2 := (nI_eq (by omega) (by omega)).mp c2
      refine lv_iload_n hx hb dX5_hundredthsBy_18 rfl (lv_at hl 1 rfl) ?_
      refine lv_bipush (v := nI 10) hx hb dX5_hundredthsBy_19 (by decide) ?_
      refine lv_icmp_le (tgt := 29) hx hb dX5_hundredthsBy_21 (by decide) (fun c4 => ?_) (fun c4 => ?_)
      · have c4 := (nI_leI (by omega) (by omega)).mp c4
        refine lv_bipush (v := nI 10) hx hb dX5_hundredthsBy_29 (by decide) ?_
        refine lv_iload_n hx hb dX5_hundredthsBy_31 rfl (lv_at hl 1 rfl) ?_
        refine lv_imul hx hb dX5_hundredthsBy_32 ?_
        refine sp_top (y := nI (10 * r)) (sp_mul _ _) ?_
        exact hend _ _ _ _ _ () dX5_hundredthsBy_33 (by unfold sp_pct; rw [if_neg c1, if_pos c2]; split <;> first | rfl | omega | (congr 1; omega)) hP hD hS
      · have c4 := mt (nI_leI (by omega) (by omega)).mpr c4
        refine lv_bipush (v := nI 100) hx hb dX5_hundredthsBy_24 (by decide) ?_
        refine lv_goto (tgt := 33) hx hb dX5_hundredthsBy_26 (by decide) ?_
        exact hend _ _ _ _ _ () dX5_hundredthsBy_33 (by unfold sp_pct; rw [if_neg c1, if_pos c2]; split <;> first | rfl | omega | (congr 1; omega)) hP hD hS
  · have c1 := (sp_z_eq (by omega)).mp c1
    refine lv_bipush (v := nI 100) hx hb dX5_hundredthsBy_4 (by decide) ?_
    refine lv_iload_n hx hb dX5_hundredthsBy_6 rfl (lv_at hl 1 rfl) ?_
    refine lv_imul hx hb dX5_hundredthsBy_7 ?_
    refine sp_top (y := nI (100 * r)) (sp_mul _ _) ?_
    refine lv_iload_n hx hb dX5_hundredthsBy_8 rfl (lv_at hl 1 rfl) ?_
    refine lv_iconst (v := nI 4) hx hb dX5_hundredthsBy_9 (by decide) ?_
    refine lv_iadd hx hb dX5_hundredthsBy_10 ?_
    refine sp_top (y := nI (r + 4)) (nI_add _ _) ?_
    refine lv_idiv hx hb dX5_hundredthsBy_11 (sp_ne (by omega) (by omega)) ?_
    refine sp_top (y := nI (sp_pct tb r)) (by rw [sp_div (by omega) (by omega) (by omega)]; unfold sp_pct; rw [if_pos c1]) ?_
    exact hend _ _ _ _ _ () dX5_hundredthsBy_12 (rfl) hP hD hS

set_option maxHeartbeats 4000000 in
set_option maxRecDepth 100000 in
theorem c_X5_strength (l : Launch) (g : sp_G) (a : sp_A9) (v : sp_V) (t : sp_T) (hM : sp_Rm v.1 t) (hI : sp_I t) (i : Nat) (hi : i < tn t) : sp_CI l g yX5_strength wsX5_strength ({ frames := 2, cells := 0, slots := 0, locals := 43 }) [.ref a.1, .int (nI i)] (mdW g a v) (fun z (_ : Unit) => z = nI (sp_str t i)) (fun _ => mdW g a v) := by
  refine sp_CI.of (cc := cX5_strength) (maxL := 3) (by decide) rfl (Nat.le_of_ble_eq_true rfl) ?_
  intro p e s m below meth c Q A ls SF hK hP hD hA hl hend
  have hx := SF.1
  have hb := SF.2.1
  have hown : s.vm.findClass RX5 = some m.cls := SF.2.2.2.1
  have hts := SF.2.2.2.2
  have hS : va_S A s.heap s.heap [] := va_S.rf
  have inX5 : ∀ w ∈ wsX50, w ∈ wsX5_strength := fun w h => List.mem_cons_of_mem _ (List.mem_append_right _ h)
  have hl : lv_has ls 3 [(0, .ref a.1), (1, .int (nI i))] := hl
  have hn8 := hI.n
  refine lv_aload_n hx hb dX5_strength_0 rfl (lv_at hl 0 rfl) ?_
  refine lv_iload_n hx hb dX5_strength_1 rfl (lv_at hl 1 rfl) ?_
  refine sp_vi0 (n := 1) SF hK hA (c_X5_age l g a v t hM hI i hi) gX5_strength_X5_age rfl rfl rfl (by decide +kernel) rfl ⟨Nat.le_of_ble_eq_true rfl, Nat.le_of_ble_eq_true rfl⟩ 5 0 rfl rfl hP hD hS hl.1 rfl (Nat.le_of_ble_eq_true rfl) dX5_strength_2 (fun r9 u9 H locs w1 hP hD hS => ?_)
  subst w1
  have hP : va_P g.1 vwCl (mdW g a v) H := hP
  have hD : va_D A (mdW g a v) := hD
  refine lv_bipush (v := nI 10) hx hb dX5_strength_5 (by decide) ?_
  refine lv_aload_n hx hb dX5_strength_7 rfl (lv_at hl 0 rfl) ?_
  refine lv_iload_n hx hb dX5_strength_8 rfl (lv_at hl 1 rfl) ?_
  refine lv_iconst (v := nI 1) hx hb dX5_strength_9 (by decide) ?_
  refine sp_vi0 (n := 2) SF hK hA (c_X5_of l g a v i 1 (by omega) (by omega)) gX5_strength_X5_of rfl rfl rfl (by decide +kernel) rfl ⟨Nat.le_of_ble_eq_true rfl, Nat.le_of_ble_eq_true rfl⟩ 5 0 rfl rfl hP hD hS hl.1 rfl (Nat.le_of_ble_eq_true rfl) dX5_strength_10 (fun r9 u9 H locs w2 hP hD hS => ?_)
  subst w2
  refine sp_top (y := nI (tsl t i)) (hM.sl hi) ?_
  have hP : va_P g.1 vwCl (mdW g a v) H := hP
  have hD : va_D A (mdW g a v) := hD
  refine lv_isub hx hb dX5_strength_13 ?_
  refine sp_top (y := nI (10 - tsl t i)) (sp_sub (Nat.le_trans (hI.sl hi) (by omega))) ?_
  refine lv_imul hx hb dX5_strength_14 ?_
  refine sp_top (y := nI ((sp_age t i) * (10 - tsl t i))) (sp_mul _ _) ?_
  refine lv_bipush (v := nI 10) hx hb dX5_strength_15 (by decide) ?_
  have hag := sp_age_le hI i
  have hm1 : sp_age t i * (10 - tsl t i) ≤ 200000 * 10 := Nat.mul_le_mul hag (by omega)
  refine lv_idiv hx hb dX5_strength_17 (sp_ne (by omega) (by omega)) ?_
  refine sp_top (y := nI (sp_rip t i)) (sp_div (by omega) (by omega) (by omega)) ?_
  refine lv_istore_n (lv' := [(2, .int (nI (sp_rip t i))), (0, .ref a.1), (1, .int (nI i))]) hx hb dX5_strength_18 rfl hl (by decide) rfl (fun ls hl => ?_)
  refine lv_aload_n hx hb dX5_strength_19 rfl (lv_at hl 1 rfl) ?_
  refine va_get (D := g.1) (ci := 5) (v := .ref a.2.1) (C := RX5) (T := TX5) (N := 11) hx hb hts inX5 hown hK.1 hP 0 rfl rfl 0 (by decide) (hts _ (List.mem_of_getElem? (i := 1) rfl)) (fun _ h9 => h9) rfl dX5_strength_20 ?_
  refine lv_iconst (v := nI 3) hx hb dX5_strength_23 (by decide) ?_
  refine va_iald hx hb hK.1 hP 1 0 rfl rfl (vp_in_nI (by omega) (by omega)) dX5_strength_24 ?_
  refine sp_top (y := v.1 3) (congrArg v.1 (sp_c8 (by omega))) ?_
  refine sp_top (y := nI (tm t)) (hM.m) ?_
  refine lv_aload_n hx hb dX5_strength_25 rfl (lv_at hl 1 rfl) ?_
  refine va_get (D := g.1) (ci := 5) (v := .ref a.2.1) (C := RX5) (T := TX5) (N := 11) hx hb hts inX5 hown hK.1 hP 0 rfl rfl 0 (by decide) (hts _ (List.mem_of_getElem? (i := 1) rfl)) (fun _ h9 => h9) rfl dX5_strength_26 ?_
  refine lv_iconst (v := nI 4) hx hb dX5_strength_29 (by decide) ?_
  refine va_iald hx hb hK.1 hP 1 0 rfl rfl (vp_in_nI (by omega) (by omega)) dX5_strength_30 ?_
  refine sp_top (y := v.1 4) (congrArg v.1 (sp_c8 (by omega))) ?_
  refine sp_top (y := nI (tt t)) (hM.t) ?_
  refine lv_iload_n hx hb dX5_strength_31 rfl (lv_at hl 0 rfl) ?_
  refine sp_si (n := 2) (wc := []) (wr := (mdW g a v)) SF hK hA (c_X5_hundredthsBy l g (tt t) (sp_rip t i) hI.t (Nat.le_trans (sp_rip_le hI i) (by omega))) gX5_strength_X5_hundredthsBy rfl rfl rfl (by decide +kernel) rfl ⟨Nat.le_of_ble_eq_true rfl, Nat.le_of_ble_eq_true rfl⟩ hP hD hS hl.1 rfl (Nat.le_of_ble_eq_true rfl) dX5_strength_32 (fun r9 u9 H locs w3 hP hD hS => ?_)
  subst w3
  have hP : va_P g.1 vwCl (mdW g a v) H := hP
  have hD : va_D A (mdW g a v) := hD
  refine lv_imul hx hb dX5_strength_35 ?_
  refine sp_top (y := nI ((tm t) * (sp_pct (tt t) (sp_rip t i)))) (sp_mul _ _) ?_
  refine lv_bipush (v := nI 100) hx hb dX5_strength_36 (by decide) ?_
  have hm2 : tm t * sp_pct (tt t) (sp_rip t i) ≤ 400 * 100 := Nat.mul_le_mul hI.m (sp_pct_le _ _)
  refine lv_idiv hx hb dX5_strength_38 (sp_ne (by omega) (by omega)) ?_
  refine sp_top (y := nI (sp_str t i)) (sp_div (by omega) (by omega) (by omega)) ?_
  exact hend _ _ _ _ _ () dX5_strength_39 (rfl) hP hD hS

set_option maxHeartbeats 4000000 in
set_option maxRecDepth 100000 in
theorem c_X5_isPropped (l : Launch) (g : sp_G) (a : sp_A9) (v : sp_V) (t : sp_T) (hM : sp_Rm v.1 t) (hI : sp_I t) (i : Nat) (hi : i < tn t) : sp_CB l g yX5_isPropped wsX5_isPropped ({ frames := 1, cells := 0, slots := 0, locals := 22 }) [.ref a.1, .int (nI i)] (mdW g a v) (fun b (_ : Unit) => b = sp_pp t i) (fun _ => mdW g a v) := by
  refine sp_CB.of (cc := cX5_isPropped) (maxL := 2) (by decide) rfl (Nat.le_of_ble_eq_true rfl) ?_
  intro p e s m below meth c Q A ls SF hK hP hD hA hl hend
  have hx := SF.1
  have hb := SF.2.1
  have hown : s.vm.findClass RX5 = some m.cls := SF.2.2.2.1
  have hts := SF.2.2.2.2
  have hS : va_S A s.heap s.heap [] := va_S.rf
  have inX5 : ∀ w ∈ wsX50, w ∈ wsX5_isPropped := fun w h => List.mem_cons_of_mem _ (List.mem_append_right _ h)
  have hl : lv_has ls 2 [(0, .ref a.1), (1, .int (nI i))] := hl
  have hn8 := hI.n
  refine lv_aload_n hx hb dX5_isPropped_0 rfl (lv_at hl 0 rfl) ?_
  refine lv_iload_n hx hb dX5_isPropped_1 rfl (lv_at hl 1 rfl) ?_
  refine lv_iconst (v := nI 3) hx hb dX5_isPropped_2 (by decide) ?_
  refine sp_vi0 (n := 2) SF hK hA (c_X5_of l g a v i 3 (by omega) (by omega)) gX5_isPropped_X5_of rfl rfl rfl (by decide +kernel) rfl ⟨Nat.le_of_ble_eq_true rfl, Nat.le_of_ble_eq_true rfl⟩ 5 0 rfl rfl hP hD hS hl.1 rfl (Nat.le_of_ble_eq_true rfl) dX5_isPropped_3 (fun r9 u9 H locs w1 hP hD hS => ?_)
  subst w1
  refine sp_top (y := bI (sp_pp t i)) (hM.pp hi) ?_
  have hP : va_P g.1 vwCl (mdW g a v) H := hP
  have hD : va_D A (mdW g a v) := hD
  refine lv_iconst (v := nI 1) hx hb dX5_isPropped_6 (by decide) ?_
  refine lv_icmp_ne (tgt := 14) hx hb dX5_isPropped_7 (by decide) (fun c1 => ?_) (fun c1 => ?_)
  · refine lv_iconst (v := bI false) hx hb dX5_isPropped_14 (by decide) ?_
    exact hend _ _ _ _ false () dX5_isPropped_15 (by first | exact (sp_bI1 c1).symm | exact (sp_bI0 c1).symm) hP hD hS
  · refine lv_iconst (v := bI true) hx hb dX5_isPropped_10 (by decide) ?_
    refine lv_goto (tgt := 15) hx hb dX5_isPropped_11 (by decide) ?_
    exact hend _ _ _ _ true () dX5_isPropped_15 (by first | exact (sp_bI1 c1).symm | exact (sp_bI0 c1).symm) hP hD hS

set_option maxHeartbeats 4000000 in
set_option maxRecDepth 100000 in
theorem c_X5_lowest (l : Launch) (g : sp_G) (a : sp_A9) (v : sp_V) (t : sp_T) (hM : sp_Rm v.1 t) (hI : sp_I t) (i : Nat) (hi : i < tn t) : sp_CI l g yX5_lowest wsX5_lowest ({ frames := 2, cells := 0, slots := 0, locals := 43 }) [.ref a.1, .int (nI i)] (mdW g a v) (fun z (_ : Unit) => z = nI (sp_low t i)) (fun _ => mdW g a v) := by
  refine sp_CI.of (cc := cX5_lowest) (maxL := 3) (by decide) rfl (Nat.le_of_ble_eq_true rfl) ?_
  intro p e s m below meth c Q A ls SF hK hP hD hA hl hend
  have hx := SF.1
  have hb := SF.2.1
  have hown : s.vm.findClass RX5 = some m.cls := SF.2.2.2.1
  have hts := SF.2.2.2.2
  have hS : va_S A s.heap s.heap [] := va_S.rf
  have inX5 : ∀ w ∈ wsX50, w ∈ wsX5_lowest := fun w h => List.mem_cons_of_mem _ (List.mem_append_right _ h)
  have hl : lv_has ls 3 [(0, .ref a.1), (1, .int (nI i))] := hl
  have hn8 := hI.n
  refine lv_iload_n hx hb dX5_lowest_0 rfl (lv_at hl 1 rfl) ?_
  refine lv_istore_n (lv' := [(2, .int (nI i)), (0, .ref a.1), (1, .int (nI i))]) hx hb dX5_lowest_1 rfl hl (by decide) rfl (fun ls hl => ?_)
  have hloop2 : ∀ (n2 : Nat) (k : Nat) (H : Heap) (locs : List Loc) (ls : Array Slot), (k ≤ i) → (sp_low t k = sp_low t i) → k < n2 → va_P g.1 vwCl (mdW g a v) H → va_D A (mdW g a v) → va_S A s.heap H locs → lv_has ls 3 [(0, .ref a.1), (1, .int (nI i)), (2, .int (nI k))] → W p l e ({ frames := 2, cells := 0, slots := 0, locals := 43 }) s m ([.ref a.1, .int (nI i)] : List Value).toArray below meth c H locs 0 0 Q (F0 m 2 ls []) := by
    intro n2
    induction n2 with
    | zero =>
      intro k H locs ls hk hlow h9
      exact absurd h9 (Nat.not_lt_zero _)
    | succ n2 ih2 =>
      intro k H locs ls hk hlow hm2 hP hD hS hl
      refine lv_iload_n hx hb dX5_lowest_2 rfl (lv_at hl 2 rfl) ?_
      refine lv_if_le (tgt := 20) hx hb dX5_lowest_3 (by decide) (fun c1 => ?_) (fun c1 => ?_)
      · have c1 := (sp_z_le (by omega)).mp c1
        refine lv_iload_n hx hb dX5_lowest_20 rfl (lv_at hl 2 rfl) ?_
        exact hend _ _ _ _ _ () dX5_lowest_21 (by first | (rw [← hlow, hlow2]) | (rw [← hlow, show k = 0 by omega]; rfl)) hP hD hS
      · have c1 := mt (sp_z_le (by omega)).mpr c1
        obtain ⟨j, rfl⟩ : ∃ j, k = j + 1 := ⟨k - 1, by omega⟩
        refine lv_aload_n hx hb dX5_lowest_6 rfl (lv_at hl 0 rfl) ?_
        refine lv_iload_n hx hb dX5_lowest_7 rfl (lv_at hl 2 rfl) ?_
        refine sp_vi0 (n := 1) SF hK hA (c_X5_isPropped l g a v t hM hI (j + 1) (by omega)) gX5_lowest_X5_isPropped rfl rfl rfl (by decide +kernel) rfl ⟨Nat.le_of_ble_eq_true rfl, Nat.le_of_ble_eq_true rfl⟩ 5 0 rfl rfl hP hD hS hl.1 rfl (Nat.le_of_ble_eq_true rfl) dX5_lowest_8 (fun r9 u9 H locs hbb hP hD hS => ?_)
        obtain ⟨bb, rfl, hbb⟩ := hbb
        have hP : va_P g.1 vwCl (mdW g a v) H := hP
        have hD : va_D A (mdW g a v) := hD
        refine lv_if_eq (tgt := 20) hx hb dX5_lowest_11 (by decide) (fun c2 => ?_) (fun c2 => ?_)
        · have c2 := sp_b0.mp c2
          have hlow2 : sp_low t (j + 1) = j + 1 := by show lowF _ (j + 1) = j + 1; simp only [lowF]; rw [← hbb, c2]; rfl
          refine lv_iload_n hx hb dX5_lowest_20 rfl (lv_at hl 2 rfl) ?_
          exact hend _ _ _ _ _ () dX5_lowest_21 (by first | (rw [← hlow, hlow2]) | (rw [← hlow, show k = 0 by omega]; rfl)) hP hD hS
        · have c2 := sp_b0n.mp c2
          have hlow2 : sp_low t (j + 1) = sp_low t j := by show lowF _ (j + 1) = lowF _ j; simp only [lowF]; rw [← hbb, c2]; rfl
          refine lv_iinc (v := nI j) (lv' := [(2, .int (nI j)), (0, .ref a.1), (1, .int (nI i))]) hx hb dX5_lowest_14 hl (k := 2) rfl (sp_dec j) (by decide) rfl (fun ls hl => ?_)
          refine lv_goto (tgt := 2) hx hb dX5_lowest_17 (by decide) ?_
          exact ih2 j _ _ _ (by omega) (hlow2.symm.trans hlow) (by omega) hP hD hS (lv_sub hl [1, 2, 0] rfl)
  exact hloop2 (_ + 1) i _ _ _ (Nat.le_refl _) (rfl) (Nat.lt_succ_self _) hP hD hS (lv_sub hl [1, 2, 0] rfl)

set_option maxHeartbeats 4000000 in
set_option maxRecDepth 100000 in
theorem c_X5_highest (l : Launch) (g : sp_G) (a : sp_A9) (v : sp_V) (t : sp_T) (hM : sp_Rm v.1 t) (hI : sp_I t) (i : Nat) (hi : i < tn t) : sp_CI l g yX5_highest wsX5_highest ({ frames := 2, cells := 0, slots := 0, locals := 43 }) [.ref a.1, .int (nI i)] (mdW g a v) (fun z (_ : Unit) => z = nI (sp_hi t i)) (fun _ => mdW g a v) := by
  refine sp_CI.of (cc := cX5_highest) (maxL := 3) (by decide) rfl (Nat.le_of_ble_eq_true rfl) ?_
  intro p e s m below meth c Q A ls SF hK hP hD hA hl hend
  have hx := SF.1
  have hb := SF.2.1
  have hown : s.vm.findClass RX5 = some m.cls := SF.2.2.2.1
  have hts := SF.2.2.2.2
  have hS : va_S A s.heap s.heap [] := va_S.rf
  have inX5 : ∀ w ∈ wsX50, w ∈ wsX5_highest := fun w h => List.mem_cons_of_mem _ (List.mem_append_right _ h)
  have hl : lv_has ls 3 [(0, .ref a.1), (1, .int (nI i))] := hl
  have hn8 := hI.n
  refine lv_iload_n hx hb dX5_highest_0 rfl (lv_at hl 1 rfl) ?_
  refine lv_istore_n (lv' := [(2, .int (nI i)), (0, .ref a.1), (1, .int (nI i))]) hx hb dX5_highest_1 rfl hl (by decide) rfl (fun ls hl => ?_)
  have hloop2 : ∀ (n2 : Nat) (k : Nat) (H : Heap) (locs : List Loc) (ls : Array Slot), (k < tn t) → (sp_hi t k = sp_hi t i) → tn t - k < n2 → va_P g.1 vwCl (mdW g a v) H → va_D A (mdW g a v) → va_S A s.heap H locs → lv_has ls 3 [(0, .ref a.1), (1, .int (nI i)), (2, .int (nI k))] → W p l e ({ frames := 2, cells := 0, slots := 0, locals := 43 }) s m ([.ref a.1, .int (nI i)] : List Value).toArray below meth c H locs 0 0 Q (F0 m 2 ls []) := by
    intro n2
    induction n2 with
    | zero =>
      intro k H locs ls hk hh h9
      exact absurd h9 (Nat.not_lt_zero _)
    | succ n2 ih2 =>
      intro k H locs ls hk hh hm2 hP hD hS hl
      refine lv_iload_n hx hb dX5_highest_2 rfl (lv_at hl 2 rfl) ?_
      refine lv_iconst (v := nI 1) hx hb dX5_highest_3 (by decide) ?_
      refine lv_iadd hx hb dX5_highest_4 ?_
      refine sp_top (y := nI (k + 1)) (nI_add _ _) ?_
      refine lv_aload_n hx hb dX5_highest_5 rfl (lv_at hl 0 rfl) ?_
      refine va_get (D := g.1) (ci := 5) (v := .ref a.2.1) (C := RX5) (T := TX5) (N := 11) hx hb hts inX5 hown hK.1 hP 0 rfl rfl 0 (by decide) (hts _ (List.mem_of_getElem? (i := 1) rfl)) (fun _ h9 => h9) rfl dX5_highest_6 ?_
      refine lv_iconst (v := nI 1) hx hb dX5_highest_9 (by decide) ?_
      refine va_iald hx hb hK.1 hP 1 0 rfl rfl (vp_in_nI (by omega) (by omega)) dX5_highest_10 ?_
      refine sp_top (y := v.1 1) (congrArg v.1 (sp_c8 (by omega))) ?_
      refine sp_top (y := nI (tn t)) (hM.n) ?_
      refine lv_icmp_ge (tgt := 30) hx hb dX5_highest_11 (by decide) (fun c1 => ?_) (fun c1 => ?_)
      · have c1 := (nI_leI (by omega) (by omega)).mp c1
        refine lv_iload_n hx hb dX5_highest_30 rfl (lv_at hl 2 rfl) ?_
        exact hend _ _ _ _ _ () dX5_highest_31 (by first | rw [← hh, sp_hi_end (Or.inl c1)] | rw [← hh, sp_hi_end (Or.inr hbb)]) hP hD hS
      · have c1 := mt (nI_leI (by omega) (by omega)).mpr c1
        refine lv_aload_n hx hb dX5_highest_14 rfl (lv_at hl 0 rfl) ?_
        refine lv_iload_n hx hb dX5_highest_15 rfl (lv_at hl 2 rfl) ?_
        refine lv_iconst (v := nI 1) hx hb dX5_highest_16 (by decide) ?_
        refine lv_iadd hx hb dX5_highest_17 ?_
        refine sp_top (y := nI (k + 1)) (nI_add _ _) ?_
        refine sp_vi0 (n := 1) SF hK hA (c_X5_isPropped l g a v t hM hI (k + 1) (by omega)) gX5_highest_X5_isPropped rfl rfl rfl (by decide +kernel) rfl ⟨Nat.le_of_ble_eq_true rfl, Nat.le_of_ble_eq_true rfl⟩ 5 0 rfl rfl hP hD hS hl.1 rfl (Nat.le_of_ble_eq_true rfl) dX5_highest_18 (fun r9 u9 H locs hbb hP hD hS => ?_)
        obtain ⟨bb, rfl, hbb⟩ := hbb
        have hP : va_P g.1 vwCl (mdW g a v) H := hP
        have hD : va_D A (mdW g a v) := hD
        refine lv_if_eq (tgt := 30) hx hb dX5_highest_21 (by decide) (fun c2 => ?_) (fun c2 => ?_)
        · have c2 := sp_b0.mp c2
          rw [c2] at hbb; have hbb := hbb.symm
          refine lv_iload_n hx hb dX5_highest_30 rfl (lv_at hl 2 rfl) ?_
          exact hend _ _ _ _ _ () dX5_highest_31 (by first | rw [← hh, sp_hi_end (Or.inl c1)] | rw [← hh, sp_hi_end (Or.inr hbb)]) hP hD hS
        · have c2 := sp_b0n.mp c2
          rw [c2] at hbb; have hbb := hbb.symm
          refine lv_iinc (v := nI (k + 1)) (lv' := [(2, .int (nI (k + 1))), (0, .ref a.1), (1, .int (nI i))]) hx hb dX5_highest_24 hl (k := 2) rfl (nI_1 k) (by decide) rfl (fun ls hl => ?_)
          refine lv_goto (tgt := 2) hx hb dX5_highest_27 (by decide) ?_
          exact ih2 (k + 1) _ _ _ (by omega) ((sp_hi_step (by omega) hbb).symm.trans hh) (by omega) hP hD hS (lv_sub hl [1, 2, 0] rfl)
  exact hloop2 (_ + 1) i _ _ _ (hi) (rfl) (Nat.lt_succ_self _) hP hD hS (lv_sub hl [1, 2, 0] rfl)

set_option maxHeartbeats 4000000 in
set_option maxRecDepth 100000 in
theorem c_X5_isGrounded (l : Launch) (g : sp_G) (a : sp_A9) (v : sp_V) (t : sp_T) (hM : sp_Rm v.1 t) (hI : sp_I t) (i : Nat) (hi : i < tn t) : sp_CB l g yX5_isGrounded wsX5_isGrounded ({ frames := 3, cells := 0, slots := 0, locals := 65 }) [.ref a.1, .int (nI i)] (mdW g a v) (fun b (_ : Unit) => b = sp_gr t i) (fun _ => mdW g a v) := by
  refine sp_CB.of (cc := cX5_isGrounded) (maxL := 2) (by decide) rfl (Nat.le_of_ble_eq_true rfl) ?_
  intro p e s m below meth c Q A ls SF hK hP hD hA hl hend
  have hx := SF.1
  have hb := SF.2.1
  have hown : s.vm.findClass RX5 = some m.cls := SF.2.2.2.1
  have hts := SF.2.2.2.2
  have hS : va_S A s.heap s.heap [] := va_S.rf
  have inX5 : ∀ w ∈ wsX50, w ∈ wsX5_isGrounded := fun w h => List.mem_cons_of_mem _ (List.mem_append_right _ h)
  have hl : lv_has ls 2 [(0, .ref a.1), (1, .int (nI i))] := hl
  have hn8 := hI.n
  refine lv_aload_n hx hb dX5_isGrounded_0 rfl (lv_at hl 0 rfl) ?_
  refine lv_iload_n hx hb dX5_isGrounded_1 rfl (lv_at hl 1 rfl) ?_
  refine sp_vi0 (n := 1) SF hK hA (c_X5_lowest l g a v t hM hI i hi) gX5_isGrounded_X5_lowest rfl rfl rfl (by decide +kernel) rfl ⟨Nat.le_of_ble_eq_true rfl, Nat.le_of_ble_eq_true rfl⟩ 5 0 rfl rfl hP hD hS hl.1 rfl (Nat.le_of_ble_eq_true rfl) dX5_isGrounded_2 (fun r9 u9 H locs w1 hP hD hS => ?_)
  subst w1
  have hP : va_P g.1 vwCl (mdW g a v) H := hP
  have hD : va_D A (mdW g a v) := hD
  have hlw := sp_low_le t i
  refine lv_if_ne (tgt := 20) hx hb dX5_isGrounded_5 (by decide) (fun c1 => ?_) (fun c1 => ?_)
  · have c1 := mt (sp_z_eq (by omega)).mpr c1
    refine lv_iconst (v := bI false) hx hb dX5_isGrounded_20 (by decide) ?_
    exact hend _ _ _ _ false () dX5_isGrounded_21 (by first | (unfold sp_gr; rw [← hbb, c2, c1]; rfl) | (unfold sp_gr; rw [decide_eq_false c1]; rfl)) hP hD hS
  · have c1 := (sp_z_eq (by omega)).mp c1
    refine lv_aload_n hx hb dX5_isGrounded_8 rfl (lv_at hl 0 rfl) ?_
    refine lv_iconst (v := nI 0) hx hb dX5_isGrounded_9 (by decide) ?_
    refine sp_vi0 (n := 1) SF hK hA (c_X5_isPropped l g a v t hM hI 0 (by omega)) gX5_isGrounded_X5_isPropped rfl rfl rfl (by decide +kernel) rfl ⟨Nat.le_of_ble_eq_true rfl, Nat.le_of_ble_eq_true rfl⟩ 5 0 rfl rfl hP hD hS hl.1 rfl (Nat.le_of_ble_eq_true rfl) dX5_isGrounded_10 (fun r9 u9 H locs hbb hP hD hS => ?_)
    obtain ⟨bb, rfl, hbb⟩ := hbb
    have hP : va_P g.1 vwCl (mdW g a v) H := hP
    have hD : va_D A (mdW g a v) := hD
    refine lv_if_eq (tgt := 20) hx hb dX5_isGrounded_13 (by decide) (fun c2 => ?_) (fun c2 => ?_)
    · have c2 := sp_b0.mp c2
      refine lv_iconst (v := bI false) hx hb dX5_isGrounded_20 (by decide) ?_
      exact hend _ _ _ _ false () dX5_isGrounded_21 (by first | (unfold sp_gr; rw [← hbb, c2, c1]; rfl) | (unfold sp_gr; rw [decide_eq_false c1]; rfl)) hP hD hS
    · have c2 := sp_b0n.mp c2
      refine lv_iconst (v := bI true) hx hb dX5_isGrounded_16 (by decide) ?_
      refine lv_goto (tgt := 21) hx hb dX5_isGrounded_17 (by decide) ?_
      exact hend _ _ _ _ true () dX5_isGrounded_21 (by first | (unfold sp_gr; rw [← hbb, c2, c1]; rfl) | (unfold sp_gr; rw [decide_eq_false c1]; rfl)) hP hD hS

set_option maxHeartbeats 4000000 in
set_option maxRecDepth 100000 in
theorem c_X5_force (l : Launch) (g : sp_G) (a : sp_A9) (v : sp_V) (t : sp_T) (hM : sp_Rm v.1 t) (hI : sp_I t) (i : Nat) (hi : i < tn t) : sp_CI l g yX5_force wsX5_force ({ frames := 3, cells := 0, slots := 0, locals := 65 }) [.ref a.1, .int (nI i)] (mdW g a v) (fun z (_ : Unit) => z = sp_frc t i) (fun _ => mdW g a v) := by
  refine sp_CI.of (cc := cX5_force) (maxL := 4) (by decide) rfl (Nat.le_of_ble_eq_true rfl) ?_
  intro p e s m below meth c Q A ls SF hK hP hD hA hl hend
  have hx := SF.1
  have hb := SF.2.1
  have hown : s.vm.findClass RX5 = some m.cls := SF.2.2.2.1
  have hts := SF.2.2.2.2
  have hS : va_S A s.heap s.heap [] := va_S.rf
  have inX5 : ∀ w ∈ wsX50, w ∈ wsX5_force := fun w h => List.mem_cons_of_mem _ (List.mem_append_right _ h)
  have hl : lv_has ls 4 [(0, .ref a.1), (1, .int (nI i))] := hl
  have hn8 := hI.n
  refine lv_iconst (v := nI 0) hx hb dX5_force_0 (by decide) ?_
  refine lv_istore_n (lv' := [(2, .int (nI 0)), (0, .ref a.1), (1, .int (nI i))]) hx hb dX5_force_1 rfl hl (by decide) rfl (fun ls hl => ?_)
  refine lv_iload_n hx hb dX5_force_2 rfl (lv_at hl 2 rfl) ?_
  refine lv_istore_n (lv' := [(3, .int (nI i)), (2, .int (nI 0)), (0, .ref a.1), (1, .int (nI i))]) hx hb dX5_force_3 rfl hl (by decide) rfl (fun ls hl => ?_)
  have hloop4 : ∀ (n4 : Nat) (k : Nat) (z : Int32) (H : Heap) (locs : List Loc) (ls : Array Slot), (i ≤ k) → (k ≤ sp_hi t i + 1) → ((if sp_pp t i then lp (sp_frs t) (sp_hi t i + 1 - k) k z else z) = sp_frc t i) → sp_hi t i + 1 - k < n4 → va_P g.1 vwCl (mdW g a v) H → va_D A (mdW g a v) → va_S A s.heap H locs → lv_has ls 4 [(0, .ref a.1), (1, .int (nI i)), (2, .int z), (3, .int (nI k))] → W p l e ({ frames := 3, cells := 0, slots := 0, locals := 65 }) s m ([.ref a.1, .int (nI i)] : List Value).toArray below meth c H locs 0 0 Q (F0 m 4 ls []) := by
    intro n4
    induction n4 with
    | zero =>
      intro k z H locs ls hk1 hk2 hh h9
      exact absurd h9 (Nat.not_lt_zero _)
    | succ n4 ih4 =>
      intro k z H locs ls hk1 hk2 hh hm4 hP hD hS hl
      have hhl := sp_hi_lt hi
      have hhg := sp_le_hi t i
      refine lv_iload_n hx hb dX5_force_4 rfl (lv_at hl 3 rfl) ?_
      refine lv_aload_n hx hb dX5_force_5 rfl (lv_at hl 0 rfl) ?_
      refine lv_iload_n hx hb dX5_force_6 rfl (lv_at hl 1 rfl) ?_
      refine sp_vi0 (n := 1) SF hK hA (c_X5_highest l g a v t hM hI i hi) gX5_force_X5_highest rfl rfl rfl (by decide +kernel) rfl ⟨Nat.le_of_ble_eq_true rfl, Nat.le_of_ble_eq_true rfl⟩ 5 0 rfl rfl hP hD hS hl.1 rfl (Nat.le_of_ble_eq_true rfl) dX5_force_7 (fun r9 u9 H locs w1 hP hD hS => ?_)
      subst w1
      have hP : va_P g.1 vwCl (mdW g a v) H := hP
      have hD : va_D A (mdW g a v) := hD
      refine lv_icmp_gt (tgt := 43) hx hb dX5_force_10 (by decide) (fun c1 => ?_) (fun c1 => ?_)
      · have c1 := (nI_ltI (by omega) (by omega)).mp c1
        refine lv_iload_n hx hb dX5_force_43 rfl (lv_at hl 2 rfl) ?_
        exact hend _ _ _ _ _ () dX5_force_44 (by first | exact sp_frc_end (Or.inl (by omega)) hh | exact sp_frc_end (Or.inr hbb) hh) hP hD hS
      · have c1 := mt (nI_ltI (by omega) (by omega)).mpr c1
        refine lv_aload_n hx hb dX5_force_13 rfl (lv_at hl 0 rfl) ?_
        refine lv_iload_n hx hb dX5_force_14 rfl (lv_at hl 1 rfl) ?_
        refine sp_vi0 (n := 1) SF hK hA (c_X5_isPropped l g a v t hM hI i hi) gX5_force_X5_isPropped rfl rfl rfl (by decide +kernel) rfl ⟨Nat.le_of_ble_eq_true rfl, Nat.le_of_ble_eq_true rfl⟩ 5 0 rfl rfl hP hD hS hl.1 rfl (Nat.le_of_ble_eq_true rfl) dX5_force_15 (fun r9 u9 H locs hbb hP hD hS => ?_)
        obtain ⟨bb, rfl, hbb⟩ := hbb
        have hP : va_P g.1 vwCl (mdW g a v) H := hP
        have hD : va_D A (mdW g a v) := hD
        refine lv_if_eq (tgt := 43) hx hb dX5_force_18 (by decide) (fun c2 => ?_) (fun c2 => ?_)
        · have c2 := sp_b0.mp c2
          rw [c2] at hbb; have hbb := hbb.symm
          refine lv_iload_n hx hb dX5_force_43 rfl (lv_at hl 2 rfl) ?_
          exact hend _ _ _ _ _ () dX5_force_44 (by first | exact sp_frc_end (Or.inl (by omega)) hh | exact sp_frc_end (Or.inr hbb) hh) hP hD hS
        · have c2 := sp_b0n.mp c2
          rw [c2] at hbb; have hbb := hbb.symm
          refine lv_iload_n hx hb dX5_force_21 rfl (lv_at hl 2 rfl) ?_
          refine lv_aload_n hx hb dX5_force_22 rfl (lv_at hl 0 rfl) ?_
          refine va_get (D := g.1) (ci := 5) (v := .ref a.2.1) (C := RX5) (T := TX5) (N := 11) hx hb hts inX5 hown hK.1 hP 0 rfl rfl 0 (by decide) (hts _ (List.mem_of_getElem? (i := 1) rfl)) (fun _ h9 => h9) rfl dX5_force_23 ?_
          refine lv_iconst (v := nI 2) hx hb dX5_force_26 (by decide) ?_
          refine va_iald hx hb hK.1 hP 1 0 rfl rfl (vp_in_nI (by omega) (by omega)) dX5_force_27 ?_
          refine sp_top (y := v.1 2) (congrArg v.1 (sp_c8 (by omega))) ?_
          refine sp_top (y := nI (tw t)) (hM.w) ?_
          refine lv_aload_n hx hb dX5_force_28 rfl (lv_at hl 0 rfl) ?_
          refine lv_iload_n hx hb dX5_force_29 rfl (lv_at hl 3 rfl) ?_
          refine lv_iconst (v := nI 2) hx hb dX5_force_30 (by decide) ?_
          refine sp_vi0 (n := 2) SF hK hA (c_X5_of l g a v k 2 (by omega) (by omega)) gX5_force_X5_of rfl rfl rfl (by decide +kernel) rfl ⟨Nat.le_of_ble_eq_true rfl, Nat.le_of_ble_eq_true rfl⟩ 5 0 rfl rfl hP hD hS hl.1 rfl (Nat.le_of_ble_eq_true rfl) dX5_force_31 (fun r9 u9 H locs w2 hP hD hS => ?_)
          subst w2
          refine sp_top (y := tlo t k) (hM.lo (by omega)) ?_
          have hP : va_P g.1 vwCl (mdW g a v) H := hP
          have hD : va_D A (mdW g a v) := hD
          refine lv_isub hx hb dX5_force_34 ?_
          refine lv_iadd hx hb dX5_force_35 ?_
          refine sp_top (y := sp_frs t k z) (rfl) ?_
          refine lv_istore_n (lv' := [(2, .int (sp_frs t k z)), (0, .ref a.1), (1, .int (nI i)), (3, .int (nI k))]) hx hb dX5_force_36 rfl hl (by decide) rfl (fun ls hl => ?_)
          refine lv_iinc (v := nI (k + 1)) (lv' := [(3, .int (nI (k + 1))), (2, .int (sp_frs t k z)), (0, .ref a.1), (1, .int (nI i))]) hx hb dX5_force_37 hl (k := 3) rfl (nI_1 k) (by decide) rfl (fun ls hl => ?_)
          refine lv_goto (tgt := 4) hx hb dX5_force_40 (by decide) ?_
          exact ih4 (k + 1) (sp_frs t k z) _ _ _ (by omega) (by omega) (sp_frc_step (by omega) hbb hh) (by omega) hP hD hS (lv_sub hl [2, 3, 1, 0] rfl)
  exact hloop4 (_ + 1) i (nI 0) _ _ _ (Nat.le_refl _) (by have := sp_le_hi t i; omega) (rfl) (Nat.lt_succ_self _) hP hD hS (lv_sub hl [2, 3, 1, 0] rfl)

set_option maxHeartbeats 4000000 in
set_option maxRecDepth 100000 in
theorem c_X5_weak (l : Launch) (g : sp_G) (a : sp_A9) (v : sp_V) (t : sp_T) (hM : sp_Rm v.1 t) (hI : sp_I t) : sp_CI l g yX5_weak wsX5_weak ({ frames := 3, cells := 0, slots := 0, locals := 65 }) [.ref a.1] (mdW g a v) (fun z (_ : Unit) => z = sp_wk t) (fun _ => mdW g a v) := by
  refine sp_CI.of (cc := cX5_weak) (maxL := 3) (by decide) rfl (Nat.le_of_ble_eq_true rfl) ?_
  intro p e s m below meth c Q A ls SF hK hP hD hA hl hend
  have hx := SF.1
  have hb := SF.2.1
  have hown : s.vm.findClass RX5 = some m.cls := SF.2.2.2.1
  have hts := SF.2.2.2.2
  have hS : va_S A s.heap s.heap [] := va_S.rf
  have inX5 : ∀ w ∈ wsX50, w ∈ wsX5_weak := fun w h => List.mem_cons_of_mem _ (List.mem_append_right _ h)
  have hl : lv_has ls 3 [(0, .ref a.1)] := hl
  have hn8 := hI.n
  refine lv_iconst (v := nI 0) hx hb dX5_weak_0 (by decide) ?_
  refine lv_istore_n (lv' := [(1, .int (nI 0)), (0, .ref a.1)]) hx hb dX5_weak_1 rfl hl (by decide) rfl (fun ls hl => ?_)
  refine lv_iconst (v := nI 0) hx hb dX5_weak_2 (by decide) ?_
  refine lv_istore_n (lv' := [(2, .int (nI 0)), (1, .int (nI 0)), (0, .ref a.1)]) hx hb dX5_weak_3 rfl hl (by decide) rfl (fun ls hl => ?_)
  have hloop4 : ∀ (n4 : Nat) (k : Nat) (z : Int32) (H : Heap) (locs : List Loc) (ls : Array Slot), (k ≤ tn t) → (lp (sp_wks t) (tn t - k) k z = sp_wk t) → tn t - k < n4 → va_P g.1 vwCl (mdW g a v) H → va_D A (mdW g a v) → va_S A s.heap H locs → lv_has ls 3 [(0, .ref a.1), (1, .int z), (2, .int (nI k))] → W p l e ({ frames := 3, cells := 0, slots := 0, locals := 65 }) s m ([.ref a.1] : List Value).toArray below meth c H locs 0 0 Q (F0 m 4 ls []) := by
    intro n4
    induction n4 with
    | zero =>
      intro k z H locs ls hk2 hh h9
      exact absurd h9 (Nat.not_lt_zero _)
    | succ n4 ih4 =>
      intro k z H locs ls hk2 hh hm4 hP hD hS hl
      refine lv_iload_n hx hb dX5_weak_4 rfl (lv_at hl 2 rfl) ?_
      refine lv_aload_n hx hb dX5_weak_5 rfl (lv_at hl 0 rfl) ?_
      refine va_get (D := g.1) (ci := 5) (v := .ref a.2.1) (C := RX5) (T := TX5) (N := 11) hx hb hts inX5 hown hK.1 hP 0 rfl rfl 0 (by decide) (hts _ (List.mem_of_getElem? (i := 1) rfl)) (fun _ h9 => h9) rfl dX5_weak_6 ?_
      refine lv_iconst (v := nI 1) hx hb dX5_weak_9 (by decide) ?_
      refine va_iald hx hb hK.1 hP 1 0 rfl rfl (vp_in_nI (by omega) (by omega)) dX5_weak_10 ?_
      refine sp_top (y := v.1 1) (congrArg v.1 (sp_c8 (by omega))) ?_
      refine sp_top (y := nI (tn t)) (hM.n) ?_
      refine lv_icmp_ge (tgt := 44) hx hb dX5_weak_11 (by decide) (fun c1 => ?_) (fun c1 => ?_)
      · have c1 := (nI_leI (by omega) (by omega)).mp c1
        refine lv_iload_n hx hb dX5_weak_44 rfl (lv_at hl 1 rfl) ?_
        exact hend _ _ _ _ _ () dX5_weak_45 (by rw [← hh, lp_end _ (by omega)]) hP hD hS
      · have c1 := mt (nI_leI (by omega) (by omega)).mpr c1
        refine lv_iload_n hx hb dX5_weak_14 rfl (lv_at hl 1 rfl) ?_
        refine lv_aload_n hx hb dX5_weak_15 rfl (lv_at hl 0 rfl) ?_
        refine lv_iload_n hx hb dX5_weak_16 rfl (lv_at hl 2 rfl) ?_
        refine lv_iconst (v := nI 2) hx hb dX5_weak_17 (by decide) ?_
        refine sp_vi0 (n := 2) SF hK hA (c_X5_of l g a v k 2 (by omega) (by omega)) gX5_weak_X5_of rfl rfl rfl (by decide +kernel) rfl ⟨Nat.le_of_ble_eq_true rfl, Nat.le_of_ble_eq_true rfl⟩ 5 0 rfl rfl hP hD hS hl.1 rfl (Nat.le_of_ble_eq_true rfl) dX5_weak_18 (fun r9 u9 H locs w1 hP hD hS => ?_)
        subst w1
        refine sp_top (y := tlo t k) (hM.lo (by omega)) ?_
        have hP : va_P g.1 vwCl (mdW g a v) H := hP
        have hD : va_D A (mdW g a v) := hD
        refine lv_aload_n hx hb dX5_weak_21 rfl (lv_at hl 0 rfl) ?_
        refine lv_iload_n hx hb dX5_weak_22 rfl (lv_at hl 2 rfl) ?_
        refine sp_vi0 (n := 1) SF hK hA (c_X5_strength l g a v t hM hI k (by omega)) gX5_weak_X5_strength rfl rfl rfl (by decide +kernel) rfl ⟨Nat.le_of_ble_eq_true rfl, Nat.le_of_ble_eq_true rfl⟩ 5 0 rfl rfl hP hD hS hl.1 rfl (Nat.le_of_ble_eq_true rfl) dX5_weak_23 (fun r9 u9 H locs w2 hP hD hS => ?_)
        subst w2
        have hP : va_P g.1 vwCl (mdW g a v) H := hP
        have hD : va_D A (mdW g a v) := hD
        refine lv_icmp_le (tgt := 35) hx hb dX5_weak_26 (by decide) (fun c2 => ?_) (fun c2 => ?_)
        · have c2 : ¬ nI (sp_str t k) < tlo t k := Int32.not_lt.mpr c2
          refine lv_iconst (v := nI 0) hx hb dX5_weak_35 (by decide) ?_
          refine lv_ior hx hb dX5_weak_36 ?_
          refine sp_top (y := z) (sp_or0 z) ?_
          refine lv_istore_n (lv' := [(1, .int z), (0, .ref a.1), (2, .int (nI k))]) hx hb dX5_weak_37 rfl hl (by decide) rfl (fun ls hl => ?_)
          refine lv_iinc (v := nI (k + 1)) (lv' := [(2, .int (nI (k + 1))), (1, .int z), (0, .ref a.1)]) hx hb dX5_weak_38 hl (k := 2) rfl (nI_1 k) (by decide) rfl (fun ls hl => ?_)
          refine lv_goto (tgt := 4) hx hb dX5_weak_41 (by decide) ?_
          exact ih4 (k + 1) z _ _ _ (by omega) (by rw [← hh, lp_step (sp_wks t) (show k < tn t by omega)]; first | rw [sp_wks_t c2] | rw [sp_wks_f c2]) (by omega) hP hD hS (lv_sub hl [2, 1, 0] rfl)
        · have c2 : nI (sp_str t k) < tlo t k := Int32.not_le.mp c2
          refine lv_iconst (v := nI 1) hx hb dX5_weak_29 (by decide) ?_
          refine lv_iload_n hx hb dX5_weak_30 rfl (lv_at hl 2 rfl) ?_
          refine lv_ishl hx hb dX5_weak_31 ?_
          refine lv_goto (tgt := 36) hx hb dX5_weak_32 (by decide) ?_
          refine lv_ior hx hb dX5_weak_36 ?_
          refine lv_istore_n (lv' := [(1, .int (z ||| ((nI 1) <<< ((nI k) &&& 31)))), (0, .ref a.1), (2, .int (nI k))]) hx hb dX5_weak_37 rfl hl (by decide) rfl (fun ls hl => ?_)
          refine lv_iinc (v := nI (k + 1)) (lv' := [(2, .int (nI (k + 1))), (1, .int (z ||| ((nI 1) <<< ((nI k) &&& 31)))), (0, .ref a.1)]) hx hb dX5_weak_38 hl (k := 2) rfl (nI_1 k) (by decide) rfl (fun ls hl => ?_)
          refine lv_goto (tgt := 4) hx hb dX5_weak_41 (by decide) ?_
          exact ih4 (k + 1) (z ||| ((nI 1) <<< ((nI k) &&& 31))) _ _ _ (by omega) (by rw [← hh, lp_step (sp_wks t) (show k < tn t by omega)]; first | rw [sp_wks_t c2] | rw [sp_wks_f c2]) (by omega) hP hD hS (lv_sub hl [2, 1, 0] rfl)
  exact hloop4 (_ + 1) 0 (nI 0) _ _ _ (Nat.zero_le _) (rfl) (Nat.lt_succ_self _) hP hD hS (lv_sub hl [2, 1, 0] rfl)
end
section
set_option maxHeartbeats 4000000 in
set_option maxRecDepth 100000 in
theorem c_X5_shares (l : Launch) (g : sp_G) (a : sp_A9) (v : sp_V) (t : sp_T) (hM : sp_Rm v.1 t) (hI : sp_I t) (i : Nat) (hi : i < tn t) (q : Int32) : sp_CV l g yX5_shares wsX5_shares ({ frames := 4, cells := 0, slots := 0, locals := 86 }) [.ref a.1, .int (nI i), .int q] (mdW g a v) (fun x : (Nat → Int32) × (Nat → Int32) => sp_Rm x.1 (sp_shr t i q)) (fun x => mdW g a (x.1, v.2.1, v.2.2.1, v.2.2.2.1, v.2.2.2.2.1, v.2.2.2.2.2.1, v.2.2.2.2.2.2.1, v.2.2.2.2.2.2.2.1, v.2.2.2.2.2.2.2.2.1, v.2.2.2.2.2.2.2.2.2.1, x.2)) := by
  refine sp_CV.of (cc := cX5_shares) (maxL := 9) (by decide) rfl (Nat.le_of_ble_eq_true rfl) ?_
  intro p e s m below meth c Q A ls SF hK hP hD hA hl hend
  have hx := SF.1
  have hb := SF.2.1
  have hown : s.vm.findClass RX5 = some m.cls := SF.2.2.2.1
  have hts := SF.2.2.2.2
  have hS : va_S A s.heap s.heap [] := va_S.rf
  have inX5 : ∀ w ∈ wsX50, w ∈ wsX5_shares := fun w h => List.mem_cons_of_mem _ (List.mem_append_right _ h)
  have hl : lv_has ls 9 [(0, .ref a.1), (1, .int (nI i)), (2, .int q)] := hl
  have hn8 := hI.n
  refine lv_aload_n hx hb dX5_shares_0 rfl (lv_at hl 0 rfl) ?_
  refine lv_iload_n hx hb dX5_shares_1 rfl (lv_at hl 1 rfl) ?_
  refine sp_vi0 (n := 1) SF hK hA (c_X5_isGrounded l g a v t hM hI i hi) gX5_shares_X5_isGrounded rfl rfl rfl (by decide +kernel) rfl ⟨Nat.le_of_ble_eq_true rfl, Nat.le_of_ble_eq_true rfl⟩ 5 0 rfl rfl hP hD hS hl.1 rfl (Nat.le_of_ble_eq_true rfl) dX5_shares_2 (fun r9 u9 H locs hbb hP hD hS => ?_)
  obtain ⟨bb, rfl, hbb⟩ := hbb
  have hP : va_P g.1 vwCl (mdW g a v) H := hP
  have hD : va_D A (mdW g a v) := hD
  refine lv_if_eq (tgt := 9) hx hb dX5_shares_5 (by decide) (fun c1 => ?_) (fun c1 => ?_)
  · have c1 := sp_b0.mp c1
    have hgr : sp_gr t i = false := hbb.symm.trans c1
    have hlw := sp_low_le t i
    have hge := sp_le_hi t i
    have hlt := sp_hi_lt hi
    have hr2 := hI.r
    refine lv_aload_n hx hb dX5_shares_9 rfl (lv_at hl 0 rfl) ?_
    refine lv_iload_n hx hb dX5_shares_10 rfl (lv_at hl 1 rfl) ?_
    refine sp_vi0 (n := 1) SF hK hA (c_X5_lowest l g a v t hM hI i hi) gX5_shares_X5_lowest rfl rfl rfl (by decide +kernel) rfl ⟨Nat.le_of_ble_eq_true rfl, Nat.le_of_ble_eq_true rfl⟩ 5 0 rfl rfl hP hD hS hl.1 rfl (Nat.le_of_ble_eq_true rfl) dX5_shares_11 (fun r9 u9 H locs w1 hP hD hS => ?_)
    subst w1
    have hP : va_P g.1 vwCl (mdW g a v) H := hP
    have hD : va_D A (mdW g a v) := hD
    refine lv_istore_n (lv' := [(3, .int (nI (sp_low t i))), (0, .ref a.1), (1, .int (nI i)), (2, .int q)]) hx hb dX5_shares_14 rfl hl (by decide) rfl (fun ls hl => ?_)
    refine lv_aload_n hx hb dX5_shares_15 rfl (lv_at hl 1 rfl) ?_
    refine lv_iload_n hx hb dX5_shares_16 rfl (lv_at hl 2 rfl) ?_
    refine sp_vi0 (n := 1) SF hK hA (c_X5_highest l g a v t hM hI i hi) gX5_shares_X5_highest rfl rfl rfl (by decide +kernel) rfl ⟨Nat.le_of_ble_eq_true rfl, Nat.le_of_ble_eq_true rfl⟩ 5 0 rfl rfl hP hD hS hl.1 rfl (Nat.le_of_ble_eq_true rfl) dX5_shares_17 (fun r9 u9 H locs w2 hP hD hS => ?_)
    subst w2
    have hP : va_P g.1 vwCl (mdW g a v) H := hP
    have hD : va_D A (mdW g a v) := hD
    refine lv_istore (lv' := [(4, .int (nI (sp_hi t i))), (3, .int (nI (sp_low t i))), (0, .ref a.1), (1, .int (nI i)), (2, .int q)]) hx hb dX5_shares_20 hl (by decide) rfl (fun ls hl => ?_)
    refine lv_iconst (v := nI 0) hx hb dX5_shares_22 (by decide) ?_
    refine lv_istore (lv' := [(5, .int (nI 0)), (4, .int (nI (sp_hi t i))), (3, .int (nI (sp_low t i))), (0, .ref a.1), (1, .int (nI i)), (2, .int q)]) hx hb dX5_shares_23 hl (by decide) rfl (fun ls hl => ?_)
    refine lv_iload_n hx hb dX5_shares_25 rfl (lv_at hl 2 rfl) ?_
    refine lv_istore (lv' := [(6, .int (nI (sp_low t i))), (5, .int (nI 0)), (4, .int (nI (sp_hi t i))), (3, .int (nI (sp_low t i))), (0, .ref a.1), (1, .int (nI i)), (2, .int q)]) hx hb dX5_shares_26 hl (by decide) rfl (fun ls hl => ?_)
    have hloop28 : ∀ (n28 : Nat) (k : Nat) (al : Nat) (pf : Nat → Int32) (H : Heap) (locs : List Loc) (ls : Array Slot), (sp_low t i ≤ k) → (k ≤ sp_hi t i + 1) → (∀ j, sp_low t i ≤ j → j < k → pf j = nI (sp_prt t j)) → (lp (sp_als (sp_prt t)) (sp_hi t i + 1 - k) k al = sp_al0 t (sp_low t i) (sp_hi t i)) → (al ≤ 200000 * k) → sp_hi t i + 1 - k < n28 → va_P g.1 vwCl (mdW g a (v.1, v.2.1, v.2.2.1, v.2.2.2.1, v.2.2.2.2.1, v.2.2.2.2.2.1, v.2.2.2.2.2.2.1, v.2.2.2.2.2.2.2.1, v.2.2.2.2.2.2.2.2.1, v.2.2.2.2.2.2.2.2.2.1, pf)) H → va_D A (mdW g a (v.1, v.2.1, v.2.2.1, v.2.2.2.1, v.2.2.2.2.1, v.2.2.2.2.2.1, v.2.2.2.2.2.2.1, v.2.2.2.2.2.2.2.1, v.2.2.2.2.2.2.2.2.1, v.2.2.2.2.2.2.2.2.2.1, pf)) → va_S A s.heap H locs → lv_has ls 9 [(0, .ref a.1), (1, .int (nI i)), (2, .int q), (3, .int (nI (sp_low t i))), (4, .int (nI (sp_hi t i))), (5, .int (nI al)), (6, .int (nI k))] → W p l e ({ frames := 4, cells := 0, slots := 0, locals := 86 }) s m ([.ref a.1, .int (nI i), .int q] : List Value).toArray below meth c H locs 0 0 Q (F0 m 28 ls []) := by
      intro n28
      induction n28 with
      | zero =>
        intro k al pf H locs ls hk1 hk2 hpf hal hab h9
        exact absurd h9 (Nat.not_lt_zero _)
      | succ n28 ih28 =>
        intro k al pf H locs ls hk1 hk2 hpf hal hab hm28 hP hD hS hl
        have hpk := sp_prt_le hI k
        have hak := sp_age_le hI k
        refine lv_iload hx hb dX5_shares_28 (lv_at hl 6 rfl) ?_
        refine lv_iload hx hb dX5_shares_30 (lv_at hl 4 rfl) ?_
        refine lv_icmp_gt (tgt := 111) hx hb dX5_shares_32 (by decide) (fun c4 => ?_) (fun c4 => ?_)
        · have c4 := (nI_ltI (by omega) (by omega)).mp c4
          have hal2 : sp_al0 t (sp_low t i) (sp_hi t i) = al := by rw [← hal, lp_end _ (by omega)]
          have halb := sp_al0_le hI (lo := sp_low t i) (hi := sp_hi t i) (by omega)
          have hj158 : ∀ (pf : Nat → Int32) (H : Heap) (locs : List Loc) (ls : Array Slot), (∀ j, sp_low t i ≤ j → j ≤ sp_hi t i → pf j = nI ((sp_P t (sp_low t i) (sp_hi t i)) j)) → va_P g.1 vwCl (mdW g a (v.1, v.2.1, v.2.2.1, v.2.2.2.1, v.2.2.2.2.1, v.2.2.2.2.2.1, v.2.2.2.2.2.2.1, v.2.2.2.2.2.2.2.1, v.2.2.2.2.2.2.2.2.1, v.2.2.2.2.2.2.2.2.2.1, pf)) H → va_D A (mdW g a (v.1, v.2.1, v.2.2.1, v.2.2.2.1, v.2.2.2.2.1, v.2.2.2.2.2.1, v.2.2.2.2.2.2.1, v.2.2.2.2.2.2.2.1, v.2.2.2.2.2.2.2.2.1, v.2.2.2.2.2.2.2.2.2.1, pf)) → va_S A s.heap H locs → lv_has ls 9 [(0, .ref a.1), (1, .int (nI i)), (2, .int q), (3, .int (nI (sp_low t i))), (4, .int (nI (sp_hi t i))), (5, .int (nI (sp_al t (sp_low t i) (sp_hi t i))))] → W p l e ({ frames := 4, cells := 0, slots := 0, locals := 86 }) s m ([.ref a.1, .int (nI i), .int q] : List Value).toArray below meth c H locs 0 0 Q (F0 m 158 ls []) := by
            intro pf H locs ls hpf hP hD hS hl
            refine lv_iload_n hx hb dX5_shares_158 rfl (lv_at hl 2 rfl) ?_
            refine lv_istore (lv' := [(6, .int q), (0, .ref a.1), (1, .int (nI i)), (2, .int q), (3, .int (nI (sp_low t i))), (4, .int (nI (sp_hi t i))), (5, .int (nI (sp_al t (sp_low t i) (sp_hi t i))))]) hx hb dX5_shares_159 hl (by decide) rfl (fun ls hl => ?_)
            refine lv_iload_n hx hb dX5_shares_161 rfl (lv_at hl 4 rfl) ?_
            refine lv_istore (lv' := [(7, .int (nI (sp_low t i))), (6, .int q), (0, .ref a.1), (1, .int (nI i)), (2, .int q), (3, .int (nI (sp_low t i))), (4, .int (nI (sp_hi t i))), (5, .int (nI (sp_al t (sp_low t i) (sp_hi t i))))]) hx hb dX5_shares_162 hl (by decide) rfl (fun ls hl => ?_)
            have hloop164 : ∀ (n164 : Nat) (k : Nat) (h : Nat → Int32) (L : Nat → Int32) (x : Int32) (H : Heap) (locs : List Loc) (ls : Array Slot), (sp_low t i ≤ k) → (k ≤ sp_hi t i + 1) → (sp_Rm h (sp_setlo t L)) → (lp (sp_s1 q (sp_P t (sp_low t i) (sp_hi t i)) (sp_al t (sp_low t i) (sp_hi t i))) (sp_hi t i + 1 - k) k (L, x) = sp_sh1 t (sp_low t i) (sp_hi t i) q) → sp_hi t i + 1 - k < n164 → va_P g.1 vwCl (mdW g a (h, v.2.1, v.2.2.1, v.2.2.2.1, v.2.2.2.2.1, v.2.2.2.2.2.1, v.2.2.2.2.2.2.1, v.2.2.2.2.2.2.2.1, v.2.2.2.2.2.2.2.2.1, v.2.2.2.2.2.2.2.2.2.1, pf)) H → va_D A (mdW g a (h, v.2.1, v.2.2.1, v.2.2.2.1, v.2.2.2.2.1, v.2.2.2.2.2.1, v.2.2.2.2.2.2.1, v.2.2.2.2.2.2.2.1, v.2.2.2.2.2.2.2.2.1, v.2.2.2.2.2.2.2.2.2.1, pf)) → va_S A s.heap H locs → lv_has ls 9 [(0, .ref a.1), (2, .int q), (3, .int (nI (sp_low t i))), (4, .int (nI (sp_hi t i))), (5, .int (nI (sp_al t (sp_low t i) (sp_hi t i)))), (6, .int x), (7, .int (nI k))] → W p l e ({ frames := 4, cells := 0, slots := 0, locals := 86 }) s m ([.ref a.1, .int (nI i), .int q] : List Value).toArray below meth c H locs 0 0 Q (F0 m 164 ls []) := by
              intro n164
              induction n164 with
              | zero =>
                intro k h L x H locs ls hk1 hk2 hM2 hh h9
                exact absurd h9 (Nat.not_lt_zero _)
              | succ n164 ih164 =>
                intro k h L x H locs ls hk1 hk2 hM2 hh hm164 hP hD hS hl
                refine lv_iload hx hb dX5_shares_164 (lv_at hl 6 rfl) ?_
                refine lv_iload hx hb dX5_shares_166 (lv_at hl 3 rfl) ?_
                refine lv_icmp_gt (tgt := 219) hx hb dX5_shares_168 (by decide) (fun c6 => ?_) (fun c6 => ?_)
                · have c6 := (nI_ltI (by omega) (by omega)).mp c6
                  refine lv_iload hx hb dX5_shares_219 (lv_at hl 5 rfl) ?_
                  have hfx : (L, x) = sp_sh1 t (sp_low t i) (sp_hi t i) q := by rw [← hh, lp_end _ (by omega)]
                  refine lv_if_eq (tgt := 298) hx hb dX5_shares_221 (by decide) (fun cw => ?_) (fun cw => ?_)
                  · have hfin : (L, x) = sp_sh2 t (sp_low t i) (sp_hi t i) q := by unfold sp_sh2; rw [← hfx, cw, sp_s2_0]
                    have hMf := hM2
                    exact hend _ _ _ _ (h, pf) dX5_shares_298 (sp_Rm_shr hgr hMf hfin) hP hD hS
                  · refine lv_iload_n hx hb dX5_shares_224 rfl (lv_at hl 2 rfl) ?_
                    refine lv_istore (lv' := [(7, .int (nI (sp_low t i))), (0, .ref a.1), (2, .int q), (3, .int (nI (sp_low t i))), (4, .int (nI (sp_hi t i))), (5, .int (nI (sp_al t (sp_low t i) (sp_hi t i)))), (6, .int x)]) hx hb dX5_shares_225 hl (by decide) rfl (fun ls hl => ?_)
                    have hloop227 : ∀ (n227 : Nat) (k : Nat) (h2 : Nat → Int32) (L2 : Nat → Int32) (x2 : Int32) (H : Heap) (locs : List Loc) (ls : Array Slot), (sp_low t i ≤ k) → (k ≤ sp_hi t i + 1) → (sp_Rm h2 (sp_setlo t L2)) → (lp (sp_s2 (sp_P t (sp_low t i) (sp_hi t i))) (sp_hi t i + 1 - k) k (L2, x2) = sp_sh2 t (sp_low t i) (sp_hi t i) q) → sp_hi t i + 1 - k < n227 → va_P g.1 vwCl (mdW g a (h2, v.2.1, v.2.2.1, v.2.2.2.1, v.2.2.2.2.1, v.2.2.2.2.2.1, v.2.2.2.2.2.2.1, v.2.2.2.2.2.2.2.1, v.2.2.2.2.2.2.2.2.1, v.2.2.2.2.2.2.2.2.2.1, pf)) H → va_D A (mdW g a (h2, v.2.1, v.2.2.1, v.2.2.2.1, v.2.2.2.2.1, v.2.2.2.2.2.1, v.2.2.2.2.2.2.1, v.2.2.2.2.2.2.2.1, v.2.2.2.2.2.2.2.2.1, v.2.2.2.2.2.2.2.2.2.1, pf)) → va_S A s.heap H locs → lv_has ls 9 [(0, .ref a.1), (2, .int q), (3, .int (nI (sp_low t i))), (4, .int (nI (sp_hi t i))), (6, .int x2), (7, .int (nI k))] → W p l e ({ frames := 4, cells := 0, slots := 0, locals := 86 }) s m ([.ref a.1, .int (nI i), .int q] : List Value).toArray below meth c H locs 0 0 Q (F0 m 227 ls []) := by
                      intro n227
                      induction n227 with
                      | zero =>
                        intro k h2 L2 x2 H locs ls hk3 hk4 hM3 hh2 h9
                        exact absurd h9 (Nat.not_lt_zero _)
                      | succ n227 ih227 =>
                        intro k h2 L2 x2 H locs ls hk3 hk4 hM3 hh2 hm227 hP hD hS hl
                        refine lv_iload hx hb dX5_shares_227 (lv_at hl 5 rfl) ?_
                        refine lv_iload hx hb dX5_shares_229 (lv_at hl 3 rfl) ?_
                        refine lv_icmp_gt (tgt := 295) hx hb dX5_shares_231 (by decide) (fun c10 => ?_) (fun c10 => ?_)
                        · have c10 := (nI_ltI (by omega) (by omega)).mp c10
                          have hfin2 : (L2, x2) = sp_sh2 t (sp_low t i) (sp_hi t i) q := by rw [← hh2, lp_end _ (by omega)]
                          refine lv_goto (tgt := 219) hx hb dX5_shares_295 (by decide) ?_
                          refine lv_iload hx hb dX5_shares_219 (lv_at hl 4 rfl) ?_
                          have hx20 : x2 = 0 := by have h5 := sp_sh_end hI (lo := sp_low t i) (hi := sp_hi t i) (by omega) (by omega) q; rw [← hfin2] at h5; exact h5
                          refine lv_if_eq (tgt := 298) hx hb dX5_shares_221 (by decide) (fun cw2 => ?_) (fun cw2 => ?_)
                          · have hfin := hfin2
                            have hMf := hM3
                            exact hend _ _ _ _ (h2, pf) dX5_shares_298 (sp_Rm_shr hgr hMf hfin) hP hD hS
                          · exact absurd hx20 cw2
                        · have c10 := mt (nI_ltI (by omega) (by omega)).mpr c10
                          refine lv_iload hx hb dX5_shares_234 (lv_at hl 4 rfl) ?_
                          refine lv_if_eq (tgt := 295) hx hb dX5_shares_236 (by decide) (fun c7 => ?_) (fun c7 => ?_)
                          · have hfin2 : (L2, x2) = sp_sh2 t (sp_low t i) (sp_hi t i) q := by rw [← hh2, c7, sp_s2_0]
                            refine lv_goto (tgt := 219) hx hb dX5_shares_295 (by decide) ?_
                            refine lv_iload hx hb dX5_shares_219 (lv_at hl 4 rfl) ?_
                            have hx20 : x2 = 0 := by have h5 := sp_sh_end hI (lo := sp_low t i) (hi := sp_hi t i) (by omega) (by omega) q; rw [← hfin2] at h5; exact h5
                            refine lv_if_eq (tgt := 298) hx hb dX5_shares_221 (by decide) (fun cw2 => ?_) (fun cw2 => ?_)
                            · have hfin := hfin2
                              have hMf := hM3
                              exact hend _ _ _ _ (h2, pf) dX5_shares_298 (sp_Rm_shr hgr hMf hfin) hP hD hS
                            · exact absurd hx20 cw2
                          · refine lv_aload_n hx hb dX5_shares_239 rfl (lv_at hl 0 rfl) ?_
                            refine va_get (D := g.1) (ci := 5) (v := .ref a.2.2.2.2.2.2.2.2) (C := RX5) (T := TX5) (N := 11) hx hb hts inX5 hown hK.1 hP 0 rfl rfl 10 (by decide) (hts _ (List.mem_of_getElem? (i := 1) rfl)) (fun _ h9 => h9) rfl dX5_shares_240 ?_
                            refine lv_iload hx hb dX5_shares_243 (lv_at hl 5 rfl) ?_
                            refine va_iald hx hb hK.1 hP 8 0 rfl rfl (vp_in_nI (by omega) (by omega)) dX5_shares_245 ?_
                            refine sp_top (y := pf k) (congrArg pf (sp_c8 (by omega))) ?_
                            refine sp_top (y := nI ((sp_P t (sp_low t i) (sp_hi t i)) k)) (hpf k hk3 (by omega)) ?_
                            refine lv_if_ne (tgt := 253) hx hb dX5_shares_246 (by decide) (fun c8 => ?_) (fun c8 => ?_)
                            · have c8 := mt (sp_z_eq (Nat.lt_of_le_of_lt (sp_P_le hI _ _ k) (by omega))).mpr c8
                              refine lv_iload hx hb dX5_shares_253 (lv_at hl 4 rfl) ?_
                              refine lv_if_le (tgt := 262) hx hb dX5_shares_255 (by decide) (fun c9 => ?_) (fun c9 => ?_)
                              · refine lv_iconst (v := (-1)) hx hb dX5_shares_262 (by decide) ?_
                                refine sp_top (y := sp_sg x2) (sp_sg_le c7 c9) ?_
                                refine lv_istore (lv' := [(8, .int (sp_sg x2)), (0, .ref a.1), (2, .int q), (3, .int (nI (sp_low t i))), (4, .int (nI (sp_hi t i))), (6, .int x2), (7, .int (nI k))]) hx hb dX5_shares_263 hl (by decide) rfl (fun ls hl => ?_)
                                refine lv_aload_n hx hb dX5_shares_265 rfl (lv_at hl 1 rfl) ?_
                                refine lv_iload hx hb dX5_shares_266 (lv_at hl 6 rfl) ?_
                                refine lv_iconst (v := nI 2) hx hb dX5_shares_268 (by decide) ?_
                                refine lv_aload_n hx hb dX5_shares_269 rfl (lv_at hl 1 rfl) ?_
                                refine lv_iload hx hb dX5_shares_270 (lv_at hl 6 rfl) ?_
                                refine lv_iconst (v := nI 2) hx hb dX5_shares_272 (by decide) ?_
                                refine sp_vi0 (n := 2) SF hK hA (c_X5_of l g a (h2, v.2.1, v.2.2.1, v.2.2.2.1, v.2.2.2.2.1, v.2.2.2.2.2.1, v.2.2.2.2.2.2.1, v.2.2.2.2.2.2.2.1, v.2.2.2.2.2.2.2.2.1, v.2.2.2.2.2.2.2.2.2.1, pf) k 2 (by omega) (by omega)) gX5_shares_X5_of rfl rfl rfl (by decide +kernel) rfl ⟨Nat.le_of_ble_eq_true rfl, Nat.le_of_ble_eq_true rfl⟩ 5 0 rfl rfl hP hD hS hl.1 rfl (Nat.le_of_ble_eq_true rfl) dX5_shares_273 (fun r9 u9 H locs w3 hP hD hS => ?_)
                                subst w3
                                refine sp_top (y := L2 k) (hM3.lo (show k < tn t by omega)) ?_
                                have hP : va_P g.1 vwCl (mdW g a (h2, v.2.1, v.2.2.1, v.2.2.2.1, v.2.2.2.2.1, v.2.2.2.2.2.1, v.2.2.2.2.2.2.1, v.2.2.2.2.2.2.2.1, v.2.2.2.2.2.2.2.2.1, v.2.2.2.2.2.2.2.2.2.1, pf)) H := hP
                                have hD : va_D A (mdW g a (h2, v.2.1, v.2.2.1, v.2.2.2.1, v.2.2.2.2.1, v.2.2.2.2.2.1, v.2.2.2.2.2.2.1, v.2.2.2.2.2.2.2.1, v.2.2.2.2.2.2.2.2.1, v.2.2.2.2.2.2.2.2.2.1, pf)) := hD
                                refine lv_iload hx hb dX5_shares_276 (lv_at hl 0 rfl) ?_
                                refine lv_iadd hx hb dX5_shares_278 ?_
                                refine sp_vv0 (n := 3) SF hK hA (c_X5_put l g a (h2, v.2.1, v.2.2.1, v.2.2.2.1, v.2.2.2.2.1, v.2.2.2.2.2.1, v.2.2.2.2.2.2.1, v.2.2.2.2.2.2.2.1, v.2.2.2.2.2.2.2.2.1, v.2.2.2.2.2.2.2.2.2.1, pf) k 2 (by omega) (by omega) ((L2 k) + (sp_sg x2))) gX5_shares_X5_put rfl rfl rfl (by decide +kernel) rfl ⟨Nat.le_of_ble_eq_true rfl, Nat.le_of_ble_eq_true rfl⟩ 5 0 rfl rfl hP hD hS hl.1 rfl (Nat.le_of_ble_eq_true rfl) dX5_shares_279 (fun u9 H locs w4 hP hD hS => ?_)
                                have hP : va_P g.1 vwCl (mdW g a ((upd h2 (6 + 4 * k + 2) ((L2 k) + (sp_sg x2))), v.2.1, v.2.2.1, v.2.2.2.1, v.2.2.2.2.1, v.2.2.2.2.2.1, v.2.2.2.2.2.2.1, v.2.2.2.2.2.2.2.1, v.2.2.2.2.2.2.2.2.1, v.2.2.2.2.2.2.2.2.2.1, pf)) H := hP
                                have hD : va_D A (mdW g a ((upd h2 (6 + 4 * k + 2) ((L2 k) + (sp_sg x2))), v.2.1, v.2.2.1, v.2.2.2.1, v.2.2.2.2.1, v.2.2.2.2.2.1, v.2.2.2.2.2.2.1, v.2.2.2.2.2.2.2.1, v.2.2.2.2.2.2.2.2.1, v.2.2.2.2.2.2.2.2.2.1, pf)) := hD
                                refine lv_iload hx hb dX5_shares_282 (lv_at hl 5 rfl) ?_
                                refine lv_iload hx hb dX5_shares_284 (lv_at hl 0 rfl) ?_
                                refine lv_isub hx hb dX5_shares_286 ?_
                                refine lv_istore (lv' := [(6, .int (x2 - (sp_sg x2))), (8, .int (sp_sg x2)), (0, .ref a.1), (2, .int q), (3, .int (nI (sp_low t i))), (4, .int (nI (sp_hi t i))), (7, .int (nI k))]) hx hb dX5_shares_287 hl (by decide) rfl (fun ls hl => ?_)
                                refine lv_iinc (v := nI (k + 1)) (lv' := [(7, .int (nI (k + 1))), (6, .int (x2 - (sp_sg x2))), (8, .int (sp_sg x2)), (0, .ref a.1), (2, .int q), (3, .int (nI (sp_low t i))), (4, .int (nI (sp_hi t i)))]) hx hb dX5_shares_289 hl (k := 6) rfl (nI_1 k) (by decide) rfl (fun ls hl => ?_)
                                refine lv_goto (tgt := 227) hx hb dX5_shares_292 (by decide) ?_
                                exact ih227 (k + 1) (upd h2 (6 + 4 * k + 2) (L2 k + sp_sg x2)) (upd L2 k (L2 k + sp_sg x2)) (x2 - sp_sg x2) _ _ _ (by omega) (by omega) (sp_Rm_lo hM3 k _) (by rw [← hh2, lp_step (sp_s2 (sp_P t (sp_low t i) (sp_hi t i))) (show k < sp_hi t i + 1 by omega), sp_s2_p1 c8 c7 rfl]) (by omega) hP hD hS (lv_sub hl [3, 4, 5, 6, 1, 0] rfl)
                              · refine lv_iconst (v := nI 1) hx hb dX5_shares_258 (by decide) ?_
                                refine lv_goto (tgt := 263) hx hb dX5_shares_259 (by decide) ?_
                                refine sp_top (y := sp_sg x2) (sp_sg_gt c9) ?_
                                refine lv_istore (lv' := [(8, .int (sp_sg x2)), (0, .ref a.1), (2, .int q), (3, .int (nI (sp_low t i))), (4, .int (nI (sp_hi t i))), (6, .int x2), (7, .int (nI k))]) hx hb dX5_shares_263 hl (by decide) rfl (fun ls hl => ?_)
                                refine lv_aload_n hx hb dX5_shares_265 rfl (lv_at hl 1 rfl) ?_
                                refine lv_iload hx hb dX5_shares_266 (lv_at hl 6 rfl) ?_
                                refine lv_iconst (v := nI 2) hx hb dX5_shares_268 (by decide) ?_
                                refine lv_aload_n hx hb dX5_shares_269 rfl (lv_at hl 1 rfl) ?_
                                refine lv_iload hx hb dX5_shares_270 (lv_at hl 6 rfl) ?_
                                refine lv_iconst (v := nI 2) hx hb dX5_shares_272 (by decide) ?_
                                refine sp_vi0 (n := 2) SF hK hA (c_X5_of l g a (h2, v.2.1, v.2.2.1, v.2.2.2.1, v.2.2.2.2.1, v.2.2.2.2.2.1, v.2.2.2.2.2.2.1, v.2.2.2.2.2.2.2.1, v.2.2.2.2.2.2.2.2.1, v.2.2.2.2.2.2.2.2.2.1, pf) k 2 (by omega) (by omega)) gX5_shares_X5_of rfl rfl rfl (by decide +kernel) rfl ⟨Nat.le_of_ble_eq_true rfl, Nat.le_of_ble_eq_true rfl⟩ 5 0 rfl rfl hP hD hS hl.1 rfl (Nat.le_of_ble_eq_true rfl) dX5_shares_273 (fun r9 u9 H locs w5 hP hD hS => ?_)
                                subst w5
                                refine sp_top (y := L2 k) (hM3.lo (show k < tn t by omega)) ?_
                                have hP : va_P g.1 vwCl (mdW g a (h2, v.2.1, v.2.2.1, v.2.2.2.1, v.2.2.2.2.1, v.2.2.2.2.2.1, v.2.2.2.2.2.2.1, v.2.2.2.2.2.2.2.1, v.2.2.2.2.2.2.2.2.1, v.2.2.2.2.2.2.2.2.2.1, pf)) H := hP
                                have hD : va_D A (mdW g a (h2, v.2.1, v.2.2.1, v.2.2.2.1, v.2.2.2.2.1, v.2.2.2.2.2.1, v.2.2.2.2.2.2.1, v.2.2.2.2.2.2.2.1, v.2.2.2.2.2.2.2.2.1, v.2.2.2.2.2.2.2.2.2.1, pf)) := hD
                                refine lv_iload hx hb dX5_shares_276 (lv_at hl 0 rfl) ?_
                                refine lv_iadd hx hb dX5_shares_278 ?_
                                refine sp_vv0 (n := 3) SF hK hA (c_X5_put l g a (h2, v.2.1, v.2.2.1, v.2.2.2.1, v.2.2.2.2.1, v.2.2.2.2.2.1, v.2.2.2.2.2.2.1, v.2.2.2.2.2.2.2.1, v.2.2.2.2.2.2.2.2.1, v.2.2.2.2.2.2.2.2.2.1, pf) k 2 (by omega) (by omega) ((L2 k) + (sp_sg x2))) gX5_shares_X5_put rfl rfl rfl (by decide +kernel) rfl ⟨Nat.le_of_ble_eq_true rfl, Nat.le_of_ble_eq_true rfl⟩ 5 0 rfl rfl hP hD hS hl.1 rfl (Nat.le_of_ble_eq_true rfl) dX5_shares_279 (fun u9 H locs w6 hP hD hS => ?_)
                                have hP : va_P g.1 vwCl (mdW g a ((upd h2 (6 + 4 * k + 2) ((L2 k) + (sp_sg x2))), v.2.1, v.2.2.1, v.2.2.2.1, v.2.2.2.2.1, v.2.2.2.2.2.1, v.2.2.2.2.2.2.1, v.2.2.2.2.2.2.2.1, v.2.2.2.2.2.2.2.2.1, v.2.2.2.2.2.2.2.2.2.1, pf)) H := hP
                                have hD : va_D A (mdW g a ((upd h2 (6 + 4 * k + 2) ((L2 k) + (sp_sg x2))), v.2.1, v.2.2.1, v.2.2.2.1, v.2.2.2.2.1, v.2.2.2.2.2.1, v.2.2.2.2.2.2.1, v.2.2.2.2.2.2.2.1, v.2.2.2.2.2.2.2.2.1, v.2.2.2.2.2.2.2.2.2.1, pf)) := hD
                                refine lv_iload hx hb dX5_shares_282 (lv_at hl 5 rfl) ?_
                                refine lv_iload hx hb dX5_shares_284 (lv_at hl 0 rfl) ?_
                                refine lv_isub hx hb dX5_shares_286 ?_
                                refine lv_istore (lv' := [(6, .int (x2 - (sp_sg x2))), (8, .int (sp_sg x2)), (0, .ref a.1), (2, .int q), (3, .int (nI (sp_low t i))), (4, .int (nI (sp_hi t i))), (7, .int (nI k))]) hx hb dX5_shares_287 hl (by decide) rfl (fun ls hl => ?_)
                                refine lv_iinc (v := nI (k + 1)) (lv' := [(7, .int (nI (k + 1))), (6, .int (x2 - (sp_sg x2))), (8, .int (sp_sg x2)), (0, .ref a.1), (2, .int q), (3, .int (nI (sp_low t i))), (4, .int (nI (sp_hi t i)))]) hx hb dX5_shares_289 hl (k := 6) rfl (nI_1 k) (by decide) rfl (fun ls hl => ?_)
                                refine lv_goto (tgt := 227) hx hb dX5_shares_292 (by decide) ?_
                                exact ih227 (k + 1) (upd h2 (6 + 4 * k + 2) (L2 k + sp_sg x2)) (upd L2 k (L2 k + sp_sg x2)) (x2 - sp_sg x2) _ _ _ (by omega) (by omega) (sp_Rm_lo hM3 k _) (by rw [← hh2, lp_step (sp_s2 (sp_P t (sp_low t i) (sp_hi t i))) (show k < sp_hi t i + 1 by omega), sp_s2_p1 c8 c7 rfl]) (by omega) hP hD hS (lv_sub hl [3, 4, 5, 6, 1, 0] rfl)
                            · have c8 := (sp_z_eq (Nat.lt_of_le_of_lt (sp_P_le hI _ _ k) (by omega))).mp c8
                              refine lv_iconst (v := nI 0) hx hb dX5_shares_249 (by decide) ?_
                              refine lv_goto (tgt := 263) hx hb dX5_shares_250 (by decide) ?_
                              refine lv_istore (lv' := [(8, .int (nI 0)), (0, .ref a.1), (2, .int q), (3, .int (nI (sp_low t i))), (4, .int (nI (sp_hi t i))), (6, .int x2), (7, .int (nI k))]) hx hb dX5_shares_263 hl (by decide) rfl (fun ls hl => ?_)
                              refine lv_aload_n hx hb dX5_shares_265 rfl (lv_at hl 1 rfl) ?_
                              refine lv_iload hx hb dX5_shares_266 (lv_at hl 6 rfl) ?_
                              refine lv_iconst (v := nI 2) hx hb dX5_shares_268 (by decide) ?_
                              refine lv_aload_n hx hb dX5_shares_269 rfl (lv_at hl 1 rfl) ?_
                              refine lv_iload hx hb dX5_shares_270 (lv_at hl 6 rfl) ?_
                              refine lv_iconst (v := nI 2) hx hb dX5_shares_272 (by decide) ?_
                              refine sp_vi0 (n := 2) SF hK hA (c_X5_of l g a (h2, v.2.1, v.2.2.1, v.2.2.2.1, v.2.2.2.2.1, v.2.2.2.2.2.1, v.2.2.2.2.2.2.1, v.2.2.2.2.2.2.2.1, v.2.2.2.2.2.2.2.2.1, v.2.2.2.2.2.2.2.2.2.1, pf) k 2 (by omega) (by omega)) gX5_shares_X5_of rfl rfl rfl (by decide +kernel) rfl ⟨Nat.le_of_ble_eq_true rfl, Nat.le_of_ble_eq_true rfl⟩ 5 0 rfl rfl hP hD hS hl.1 rfl (Nat.le_of_ble_eq_true rfl) dX5_shares_273 (fun r9 u9 H locs w7 hP hD hS => ?_)
                              subst w7
                              refine sp_top (y := L2 k) (hM3.lo (show k < tn t by omega)) ?_
                              have hP : va_P g.1 vwCl (mdW g a (h2, v.2.1, v.2.2.1, v.2.2.2.1, v.2.2.2.2.1, v.2.2.2.2.2.1, v.2.2.2.2.2.2.1, v.2.2.2.2.2.2.2.1, v.2.2.2.2.2.2.2.2.1, v.2.2.2.2.2.2.2.2.2.1, pf)) H := hP
                              have hD : va_D A (mdW g a (h2, v.2.1, v.2.2.1, v.2.2.2.1, v.2.2.2.2.1, v.2.2.2.2.2.1, v.2.2.2.2.2.2.1, v.2.2.2.2.2.2.2.1, v.2.2.2.2.2.2.2.2.1, v.2.2.2.2.2.2.2.2.2.1, pf)) := hD
                              refine lv_iload hx hb dX5_shares_276 (lv_at hl 0 rfl) ?_
                              refine lv_iadd hx hb dX5_shares_278 ?_
                              refine sp_top (y := L2 k) (sp_add0 _) ?_
                              refine sp_vv0 (n := 3) SF hK hA (c_X5_put l g a (h2, v.2.1, v.2.2.1, v.2.2.2.1, v.2.2.2.2.1, v.2.2.2.2.2.1, v.2.2.2.2.2.2.1, v.2.2.2.2.2.2.2.1, v.2.2.2.2.2.2.2.2.1, v.2.2.2.2.2.2.2.2.2.1, pf) k 2 (by omega) (by omega) (L2 k)) gX5_shares_X5_put rfl rfl rfl (by decide +kernel) rfl ⟨Nat.le_of_ble_eq_true rfl, Nat.le_of_ble_eq_true rfl⟩ 5 0 rfl rfl hP hD hS hl.1 rfl (Nat.le_of_ble_eq_true rfl) dX5_shares_279 (fun u9 H locs w8 hP hD hS => ?_)
                              have hP : va_P g.1 vwCl (mdW g a ((upd h2 (6 + 4 * k + 2) (L2 k)), v.2.1, v.2.2.1, v.2.2.2.1, v.2.2.2.2.1, v.2.2.2.2.2.1, v.2.2.2.2.2.2.1, v.2.2.2.2.2.2.2.1, v.2.2.2.2.2.2.2.2.1, v.2.2.2.2.2.2.2.2.2.1, pf)) H := hP
                              have hD : va_D A (mdW g a ((upd h2 (6 + 4 * k + 2) (L2 k)), v.2.1, v.2.2.1, v.2.2.2.1, v.2.2.2.2.1, v.2.2.2.2.2.1, v.2.2.2.2.2.2.1, v.2.2.2.2.2.2.2.1, v.2.2.2.2.2.2.2.2.1, v.2.2.2.2.2.2.2.2.2.1, pf)) := hD
                              refine lv_iload hx hb dX5_shares_282 (lv_at hl 5 rfl) ?_
                              refine lv_iload hx hb dX5_shares_284 (lv_at hl 0 rfl) ?_
                              refine lv_isub hx hb dX5_shares_286 ?_
                              refine sp_top (y := x2) (sp_sub0 _) ?_
                              refine lv_istore (lv' := [(6, .int x2), (8, .int (nI 0)), (0, .ref a.1), (2, .int q), (3, .int (nI (sp_low t i))), (4, .int (nI (sp_hi t i))), (7, .int (nI k))]) hx hb dX5_shares_287 hl (by decide) rfl (fun ls hl => ?_)
                              refine lv_iinc (v := nI (k + 1)) (lv' := [(7, .int (nI (k + 1))), (6, .int x2), (8, .int (nI 0)), (0, .ref a.1), (2, .int q), (3, .int (nI (sp_low t i))), (4, .int (nI (sp_hi t i)))]) hx hb dX5_shares_289 hl (k := 6) rfl (nI_1 k) (by decide) rfl (fun ls hl => ?_)
                              refine lv_goto (tgt := 227) hx hb dX5_shares_292 (by decide) ?_
                              exact ih227 (k + 1) (upd h2 (6 + 4 * k + 2) (L2 k)) L2 x2 _ _ _ (by omega) (by omega) (sp_Rm_same hM3 k) (by rw [← hh2, lp_step (sp_s2 (sp_P t (sp_low t i) (sp_hi t i))) (show k < sp_hi t i + 1 by omega), sp_s2_p0 c8]) (by omega) hP hD hS (lv_sub hl [3, 4, 5, 6, 1, 0] rfl)
                    exact hloop227 (_ + 1) (sp_low t i) h L x _ _ _ (Nat.le_refl _) (by omega) (hM2) (by unfold sp_sh2; rw [hfx]) (Nat.lt_succ_self _) hP hD hS (lv_sub hl [1, 2, 3, 4, 6, 0] rfl)
                · have c6 := mt (nI_ltI (by omega) (by omega)).mpr c6
                  refine lv_iload_n hx hb dX5_shares_171 rfl (lv_at hl 1 rfl) ?_
                  refine lv_i2l (v := q.toInt64) hx hb dX5_shares_172 (rfl) ?_
                  refine lv_aload_n hx hb dX5_shares_173 rfl (lv_at hl 0 rfl) ?_
                  refine va_get (D := g.1) (ci := 5) (v := .ref a.2.2.2.2.2.2.2.2) (C := RX5) (T := TX5) (N := 11) hx hb hts inX5 hown hK.1 hP 0 rfl rfl 10 (by decide) (hts _ (List.mem_of_getElem? (i := 1) rfl)) (fun _ h9 => h9) rfl dX5_shares_174 ?_
                  refine lv_iload hx hb dX5_shares_177 (lv_at hl 6 rfl) ?_
                  refine va_iald hx hb hK.1 hP 8 0 rfl rfl (vp_in_nI (by omega) (by omega)) dX5_shares_179 ?_
                  refine sp_top (y := pf k) (congrArg pf (sp_c8 (by omega))) ?_
                  refine sp_top (y := nI ((sp_P t (sp_low t i) (sp_hi t i)) k)) (hpf k hk1 (by omega)) ?_
                  refine lv_i2l (v := lN ((sp_P t (sp_low t i) (sp_hi t i)) k)) hx hb dX5_shares_180 (nI_l (Nat.lt_of_le_of_lt (sp_P_le hI _ _ k) (by omega))) ?_
                  refine lv_lmul hx hb dX5_shares_181 ?_
                  refine lv_iload hx hb dX5_shares_182 (lv_at hl 4 rfl) ?_
                  refine lv_i2l (v := lN (sp_al t (sp_low t i) (sp_hi t i))) hx hb dX5_shares_184 (nI_l (Nat.lt_of_le_of_lt (sp_al_le hI (by omega)) (by omega))) ?_
                  refine lv_ldiv hx hb dX5_shares_185 (sp_lne (sp_al_pos (by omega)) (Nat.lt_of_le_of_lt (sp_al_le hI (by omega)) (by omega))) ?_
                  refine lv_l2i (v := sp_got q ((sp_P t (sp_low t i) (sp_hi t i)) k) (sp_al t (sp_low t i) (sp_hi t i))) hx hb dX5_shares_186 (rfl) ?_
                  refine lv_istore (lv' := [(8, .int (sp_got q ((sp_P t (sp_low t i) (sp_hi t i)) k) (sp_al t (sp_low t i) (sp_hi t i)))), (0, .ref a.1), (2, .int q), (3, .int (nI (sp_low t i))), (4, .int (nI (sp_hi t i))), (5, .int (nI (sp_al t (sp_low t i) (sp_hi t i)))), (6, .int x), (7, .int (nI k))]) hx hb dX5_shares_187 hl (by decide) rfl (fun ls hl => ?_)
                  refine lv_aload_n hx hb dX5_shares_189 rfl (lv_at hl 1 rfl) ?_
                  refine lv_iload hx hb dX5_shares_190 (lv_at hl 7 rfl) ?_
                  refine lv_iconst (v := nI 2) hx hb dX5_shares_192 (by decide) ?_
                  refine lv_aload_n hx hb dX5_shares_193 rfl (lv_at hl 1 rfl) ?_
                  refine lv_iload hx hb dX5_shares_194 (lv_at hl 7 rfl) ?_
                  refine lv_iconst (v := nI 2) hx hb dX5_shares_196 (by decide) ?_
                  refine sp_vi0 (n := 2) SF hK hA (c_X5_of l g a (h, v.2.1, v.2.2.1, v.2.2.2.1, v.2.2.2.2.1, v.2.2.2.2.2.1, v.2.2.2.2.2.2.1, v.2.2.2.2.2.2.2.1, v.2.2.2.2.2.2.2.2.1, v.2.2.2.2.2.2.2.2.2.1, pf) k 2 (by omega) (by omega)) gX5_shares_X5_of rfl rfl rfl (by decide +kernel) rfl ⟨Nat.le_of_ble_eq_true rfl, Nat.le_of_ble_eq_true rfl⟩ 5 0 rfl rfl hP hD hS hl.1 rfl (Nat.le_of_ble_eq_true rfl) dX5_shares_197 (fun r9 u9 H locs w9 hP hD hS => ?_)
                  subst w9
                  refine sp_top (y := L k) (hM2.lo (show k < tn t by omega)) ?_
                  have hP : va_P g.1 vwCl (mdW g a (h, v.2.1, v.2.2.1, v.2.2.2.1, v.2.2.2.2.1, v.2.2.2.2.2.1, v.2.2.2.2.2.2.1, v.2.2.2.2.2.2.2.1, v.2.2.2.2.2.2.2.2.1, v.2.2.2.2.2.2.2.2.2.1, pf)) H := hP
                  have hD : va_D A (mdW g a (h, v.2.1, v.2.2.1, v.2.2.2.1, v.2.2.2.2.1, v.2.2.2.2.2.1, v.2.2.2.2.2.2.1, v.2.2.2.2.2.2.2.1, v.2.2.2.2.2.2.2.2.1, v.2.2.2.2.2.2.2.2.2.1, pf)) := hD
                  refine lv_iload hx hb dX5_shares_200 (lv_at hl 0 rfl) ?_
                  refine lv_iadd hx hb dX5_shares_202 ?_
                  refine sp_vv0 (n := 3) SF hK hA (c_X5_put l g a (h, v.2.1, v.2.2.1, v.2.2.2.1, v.2.2.2.2.1, v.2.2.2.2.2.1, v.2.2.2.2.2.2.1, v.2.2.2.2.2.2.2.1, v.2.2.2.2.2.2.2.2.1, v.2.2.2.2.2.2.2.2.2.1, pf) k 2 (by omega) (by omega) ((L k) + (sp_got q ((sp_P t (sp_low t i) (sp_hi t i)) k) (sp_al t (sp_low t i) (sp_hi t i))))) gX5_shares_X5_put rfl rfl rfl (by decide +kernel) rfl ⟨Nat.le_of_ble_eq_true rfl, Nat.le_of_ble_eq_true rfl⟩ 5 0 rfl rfl hP hD hS hl.1 rfl (Nat.le_of_ble_eq_true rfl) dX5_shares_203 (fun u9 H locs w10 hP hD hS => ?_)
                  have hP : va_P g.1 vwCl (mdW g a ((upd h (6 + 4 * k + 2) ((L k) + (sp_got q ((sp_P t (sp_low t i) (sp_hi t i)) k) (sp_al t (sp_low t i) (sp_hi t i))))), v.2.1, v.2.2.1, v.2.2.2.1, v.2.2.2.2.1, v.2.2.2.2.2.1, v.2.2.2.2.2.2.1, v.2.2.2.2.2.2.2.1, v.2.2.2.2.2.2.2.2.1, v.2.2.2.2.2.2.2.2.2.1, pf)) H := hP
                  have hD : va_D A (mdW g a ((upd h (6 + 4 * k + 2) ((L k) + (sp_got q ((sp_P t (sp_low t i) (sp_hi t i)) k) (sp_al t (sp_low t i) (sp_hi t i))))), v.2.1, v.2.2.1, v.2.2.2.1, v.2.2.2.2.1, v.2.2.2.2.2.1, v.2.2.2.2.2.2.1, v.2.2.2.2.2.2.2.1, v.2.2.2.2.2.2.2.2.1, v.2.2.2.2.2.2.2.2.2.1, pf)) := hD
                  refine lv_iload hx hb dX5_shares_206 (lv_at hl 6 rfl) ?_
                  refine lv_iload hx hb dX5_shares_208 (lv_at hl 0 rfl) ?_
                  refine lv_isub hx hb dX5_shares_210 ?_
                  refine lv_istore (lv' := [(6, .int (x - (sp_got q ((sp_P t (sp_low t i) (sp_hi t i)) k) (sp_al t (sp_low t i) (sp_hi t i))))), (8, .int (sp_got q ((sp_P t (sp_low t i) (sp_hi t i)) k) (sp_al t (sp_low t i) (sp_hi t i)))), (0, .ref a.1), (2, .int q), (3, .int (nI (sp_low t i))), (4, .int (nI (sp_hi t i))), (5, .int (nI (sp_al t (sp_low t i) (sp_hi t i)))), (7, .int (nI k))]) hx hb dX5_shares_211 hl (by decide) rfl (fun ls hl => ?_)
                  refine lv_iinc (v := nI (k + 1)) (lv' := [(7, .int (nI (k + 1))), (6, .int (x - (sp_got q ((sp_P t (sp_low t i) (sp_hi t i)) k) (sp_al t (sp_low t i) (sp_hi t i))))), (8, .int (sp_got q ((sp_P t (sp_low t i) (sp_hi t i)) k) (sp_al t (sp_low t i) (sp_hi t i)))), (0, .ref a.1), (2, .int q), (3, .int (nI (sp_low t i))), (4, .int (nI (sp_hi t i))), (5, .int (nI (sp_al t (sp_low t i) (sp_hi t i))))]) hx hb dX5_shares_213 hl (k := 7) rfl (nI_1 k) (by decide) rfl (fun ls hl => ?_)
                  refine lv_goto (tgt := 164) hx hb dX5_shares_216 (by decide) ?_
                  exact ih164 (k + 1) (upd h (6 + 4 * k + 2) (L k + sp_got q ((sp_P t (sp_low t i) (sp_hi t i)) k) (sp_al t (sp_low t i) (sp_hi t i)))) (upd L k (L k + sp_got q ((sp_P t (sp_low t i) (sp_hi t i)) k) (sp_al t (sp_low t i) (sp_hi t i)))) (x - sp_got q ((sp_P t (sp_low t i) (sp_hi t i)) k) (sp_al t (sp_low t i) (sp_hi t i))) _ _ _ (by omega) (by omega) (sp_Rm_lo hM2 k _) (by rw [← hh, lp_step (sp_s1 q (sp_P t (sp_low t i) (sp_hi t i)) (sp_al t (sp_low t i) (sp_hi t i))) (show k < sp_hi t i + 1 by omega)]; rfl) (by omega) hP hD hS (lv_sub hl [3, 4, 5, 6, 7, 1, 0] rfl)
            exact hloop164 (_ + 1) (sp_low t i) v.1 (tlo t) q _ _ _ (Nat.le_refl _) (by omega) (hM) (rfl) (Nat.lt_succ_self _) hP hD hS (lv_sub hl [2, 4, 5, 6, 7, 1, 0] rfl)
          by_cases hz : al = 0
          · subst hz
            refine lv_iload_n hx hb dX5_shares_111 rfl (lv_at hl 3 rfl) ?_
            refine lv_istore (lv' := [(6, .int (nI (sp_low t i))), (0, .ref a.1), (1, .int (nI i)), (2, .int q), (3, .int (nI (sp_low t i))), (4, .int (nI (sp_hi t i))), (5, .int (nI 0))]) hx hb dX5_shares_112 hl (by decide) rfl (fun ls hl => ?_)
            have hloop114 : ∀ (n114 : Nat) (k : Nat) (pf2 : Nat → Int32) (H : Heap) (locs : List Loc) (ls : Array Slot), (sp_low t i ≤ k) → (k ≤ sp_hi t i + 1) → (∀ j, sp_low t i ≤ j → j < k → pf2 j = nI 1) → sp_hi t i + 1 - k < n114 → va_P g.1 vwCl (mdW g a (v.1, v.2.1, v.2.2.1, v.2.2.2.1, v.2.2.2.2.1, v.2.2.2.2.2.1, v.2.2.2.2.2.2.1, v.2.2.2.2.2.2.2.1, v.2.2.2.2.2.2.2.2.1, v.2.2.2.2.2.2.2.2.2.1, pf2)) H → va_D A (mdW g a (v.1, v.2.1, v.2.2.1, v.2.2.2.1, v.2.2.2.2.1, v.2.2.2.2.2.1, v.2.2.2.2.2.2.1, v.2.2.2.2.2.2.2.1, v.2.2.2.2.2.2.2.2.1, v.2.2.2.2.2.2.2.2.2.1, pf2)) → va_S A s.heap H locs → lv_has ls 9 [(0, .ref a.1), (1, .int (nI i)), (2, .int q), (3, .int (nI (sp_low t i))), (4, .int (nI (sp_hi t i))), (5, .int (nI 0)), (6, .int (nI k))] → W p l e ({ frames := 4, cells := 0, slots := 0, locals := 86 }) s m ([.ref a.1, .int (nI i), .int q] : List Value).toArray below meth c H locs 0 0 Q (F0 m 114 ls []) := by
              intro n114
              induction n114 with
              | zero =>
                intro k pf2 H locs ls hk1 hk2 hp2 h9
                exact absurd h9 (Nat.not_lt_zero _)
              | succ n114 ih114 =>
                intro k pf2 H locs ls hk1 hk2 hp2 hm114 hP hD hS hl
                refine lv_iload hx hb dX5_shares_114 (lv_at hl 6 rfl) ?_
                refine lv_iload hx hb dX5_shares_116 (lv_at hl 4 rfl) ?_
                refine lv_icmp_gt (tgt := 140) hx hb dX5_shares_118 (by decide) (fun c4 => ?_) (fun c4 => ?_)
                · have c4 := (nI_ltI (by omega) (by omega)).mp c4
                  refine lv_iload hx hb dX5_shares_140 (lv_at hl 5 rfl) ?_
                  refine lv_if_ne (tgt := 154) hx hb dX5_shares_142 (by decide) (fun c6 => ?_) (fun c6 => ?_)
                  · have c6 := mt (sp_z_eq (by omega)).mpr c6
                    exact absurd rfl c6
                  · have c6 := (sp_z_eq (by omega)).mp c6
                    refine lv_iload hx hb dX5_shares_145 (lv_at hl 4 rfl) ?_
                    refine lv_iload_n hx hb dX5_shares_147 rfl (lv_at hl 3 rfl) ?_
                    refine lv_isub hx hb dX5_shares_148 ?_
                    refine sp_top (y := nI (sp_hi t i - sp_low t i)) (sp_sub (by omega)) ?_
                    refine lv_iconst (v := nI 1) hx hb dX5_shares_149 (by decide) ?_
                    refine lv_iadd hx hb dX5_shares_150 ?_
                    refine sp_top (y := nI ((sp_hi t i - sp_low t i) + 1)) (nI_add _ _) ?_
                    refine lv_goto (tgt := 156) hx hb dX5_shares_151 (by decide) ?_
                    refine sp_top (y := nI (sp_al t (sp_low t i) (sp_hi t i))) (congrArg nI (by unfold sp_al; rw [if_pos hal2]; omega)) ?_
                    refine lv_istore (lv' := [(5, .int (nI (sp_al t (sp_low t i) (sp_hi t i)))), (0, .ref a.1), (1, .int (nI i)), (2, .int q), (3, .int (nI (sp_low t i))), (4, .int (nI (sp_hi t i))), (6, .int (nI k))]) hx hb dX5_shares_156 hl (by decide) rfl (fun ls hl => ?_)
                    exact hj158 pf2 _ _ _ (fun j h1 h2 => by rw [hp2 j h1 (by omega)]; unfold sp_P; rw [if_pos hal2]) hP hD hS (lv_sub hl [1, 2, 3, 4, 5, 0] rfl)
                · have c4 := mt (nI_ltI (by omega) (by omega)).mpr c4
                  refine lv_iload hx hb dX5_shares_121 (lv_at hl 5 rfl) ?_
                  refine lv_if_ne (tgt := 140) hx hb dX5_shares_123 (by decide) (fun c5 => ?_) (fun c5 => ?_)
                  · have c5 := mt (sp_z_eq (by omega)).mpr c5
                    exact absurd rfl c5
                  · have c5 := (sp_z_eq (by omega)).mp c5
                    refine lv_aload_n hx hb dX5_shares_126 rfl (lv_at hl 0 rfl) ?_
                    refine va_get (D := g.1) (ci := 5) (v := .ref a.2.2.2.2.2.2.2.2) (C := RX5) (T := TX5) (N := 11) hx hb hts inX5 hown hK.1 hP 0 rfl rfl 10 (by decide) (hts _ (List.mem_of_getElem? (i := 1) rfl)) (fun _ h9 => h9) rfl dX5_shares_127 ?_
                    refine lv_iload hx hb dX5_shares_130 (lv_at hl 6 rfl) ?_
                    refine lv_iconst (v := nI 1) hx hb dX5_shares_132 (by decide) ?_
                    refine va_iast hx hb hK.1 hP hD hS 8 0 rfl rfl (vp_in_nI (by omega) (by omega)) dX5_shares_133 (fun H locs hP hD hS => ?_)
                    rw [sp_c8 (k := k) (by omega)] at hP hD
                    have hP : va_P g.1 vwCl (mdW g a (v.1, v.2.1, v.2.2.1, v.2.2.2.1, v.2.2.2.2.1, v.2.2.2.2.2.1, v.2.2.2.2.2.2.1, v.2.2.2.2.2.2.2.1, v.2.2.2.2.2.2.2.2.1, v.2.2.2.2.2.2.2.2.2.1, (upd pf2 k (nI 1)))) H := hP
                    have hD : va_D A (mdW g a (v.1, v.2.1, v.2.2.1, v.2.2.2.1, v.2.2.2.2.1, v.2.2.2.2.2.1, v.2.2.2.2.2.2.1, v.2.2.2.2.2.2.2.1, v.2.2.2.2.2.2.2.2.1, v.2.2.2.2.2.2.2.2.2.1, (upd pf2 k (nI 1)))) := hD
                    refine lv_iinc (v := nI (k + 1)) (lv' := [(6, .int (nI (k + 1))), (0, .ref a.1), (1, .int (nI i)), (2, .int q), (3, .int (nI (sp_low t i))), (4, .int (nI (sp_hi t i))), (5, .int (nI 0))]) hx hb dX5_shares_134 hl (k := 6) rfl (nI_1 k) (by decide) rfl (fun ls hl => ?_)
                    refine lv_goto (tgt := 114) hx hb dX5_shares_137 (by decide) ?_
                    exact ih114 (k + 1) (upd pf2 k (nI 1)) _ _ _ (by omega) (by omega) (sp_upd_ext (F := fun _ => nI 1) hp2 rfl) (by omega) hP hD hS (lv_sub hl [1, 2, 3, 4, 5, 6, 0] rfl)
            exact hloop114 (_ + 1) (sp_low t i) pf _ _ _ (Nat.le_refl _) (by omega) (fun j h1 h2 => absurd h1 (by omega)) (Nat.lt_succ_self _) hP hD hS (lv_sub hl [1, 2, 3, 4, 5, 6, 0] rfl)
          · have hz2 := hz
            refine lv_iload_n hx hb dX5_shares_111 rfl (lv_at hl 3 rfl) ?_
            refine lv_istore (lv' := [(6, .int (nI (sp_low t i))), (0, .ref a.1), (1, .int (nI i)), (2, .int q), (3, .int (nI (sp_low t i))), (4, .int (nI (sp_hi t i))), (5, .int (nI al))]) hx hb dX5_shares_112 hl (by decide) rfl (fun ls hl => ?_)
            refine lv_iload hx hb dX5_shares_114 (lv_at hl 0 rfl) ?_
            refine lv_iload hx hb dX5_shares_116 (lv_at hl 5 rfl) ?_
            refine lv_icmp_gt (tgt := 140) hx hb dX5_shares_118 (by decide) (fun c4 => ?_) (fun c4 => ?_)
            · have c4 := (nI_ltI (by omega) (by omega)).mp c4
              exact absurd c4 (by omega)
            · have c4 := mt (nI_ltI (by omega) (by omega)).mpr c4
              refine lv_iload hx hb dX5_shares_121 (lv_at hl 6 rfl) ?_
              refine lv_if_ne (tgt := 140) hx hb dX5_shares_123 (by decide) (fun c5 => ?_) (fun c5 => ?_)
              · have c5 := mt (sp_z_eq (by omega)).mpr c5
                refine lv_iload hx hb dX5_shares_140 (lv_at hl 6 rfl) ?_
                refine lv_if_ne (tgt := 154) hx hb dX5_shares_142 (by decide) (fun c6 => ?_) (fun c6 => ?_)
                · have c6 := mt (sp_z_eq (by omega)).mpr c6
                  refine lv_iload hx hb dX5_shares_154 (lv_at hl 6 rfl) ?_
                  refine sp_top (y := nI (sp_al t (sp_low t i) (sp_hi t i))) (congrArg nI (by unfold sp_al; rw [if_neg (by omega)]; exact hal2.symm)) ?_
                  refine lv_istore (lv' := [(5, .int (nI (sp_al t (sp_low t i) (sp_hi t i)))), (6, .int (nI (sp_low t i))), (0, .ref a.1), (1, .int (nI i)), (2, .int q), (3, .int (nI (sp_low t i))), (4, .int (nI (sp_hi t i)))]) hx hb dX5_shares_156 hl (by decide) rfl (fun ls hl => ?_)
                  exact hj158 pf _ _ _ (fun j h1 h2 => by rw [hpf j h1 (by omega)]; unfold sp_P; rw [if_neg (by omega)]) hP hD hS (lv_sub hl [2, 3, 4, 5, 6, 0] rfl)
                · have c6 := (sp_z_eq (by omega)).mp c6
                  exact absurd c6 hz
              · have c5 := (sp_z_eq (by omega)).mp c5
                exact absurd c5 hz
        · have c4 := mt (nI_ltI (by omega) (by omega)).mpr c4
          refine lv_aload_n hx hb dX5_shares_35 rfl (lv_at hl 0 rfl) ?_
          refine va_get (D := g.1) (ci := 5) (v := .ref a.2.2.2.2.2.2.2.2) (C := RX5) (T := TX5) (N := 11) hx hb hts inX5 hown hK.1 hP 0 rfl rfl 10 (by decide) (hts _ (List.mem_of_getElem? (i := 1) rfl)) (fun _ h9 => h9) rfl dX5_shares_36 ?_
          refine lv_iload hx hb dX5_shares_39 (lv_at hl 6 rfl) ?_
          refine lv_aload_n hx hb dX5_shares_41 rfl (lv_at hl 0 rfl) ?_
          refine va_get (D := g.1) (ci := 5) (v := .ref a.2.1) (C := RX5) (T := TX5) (N := 11) hx hb hts inX5 hown hK.1 hP 0 rfl rfl 0 (by decide) (hts _ (List.mem_of_getElem? (i := 2) rfl)) (fun _ h9 => h9) rfl dX5_shares_42 ?_
          refine lv_iconst (v := nI 5) hx hb dX5_shares_45 (by decide) ?_
          refine va_iald hx hb hK.1 hP 1 0 rfl rfl (vp_in_nI (by omega) (by omega)) dX5_shares_46 ?_
          refine sp_top (y := v.1 5) (congrArg v.1 (sp_c8 (by omega))) ?_
          refine sp_top (y := nI (tr t)) (hM.r) ?_
          refine lv_if_ne (tgt := 67) hx hb dX5_shares_47 (by decide) (fun cr0 => ?_) (fun cr0 => ?_)
          · have cr0 := mt (sp_z_eq (by omega)).mpr cr0
            refine lv_aload_n hx hb dX5_shares_67 rfl (lv_at hl 0 rfl) ?_
            refine va_get (D := g.1) (ci := 5) (v := .ref a.2.1) (C := RX5) (T := TX5) (N := 11) hx hb hts inX5 hown hK.1 hP 0 rfl rfl 0 (by decide) (hts _ (List.mem_of_getElem? (i := 2) rfl)) (fun _ h9 => h9) rfl dX5_shares_68 ?_
            refine lv_iconst (v := nI 5) hx hb dX5_shares_71 (by decide) ?_
            refine va_iald hx hb hK.1 hP 1 0 rfl rfl (vp_in_nI (by omega) (by omega)) dX5_shares_72 ?_
            refine sp_top (y := v.1 5) (congrArg v.1 (sp_c8 (by omega))) ?_
            refine sp_top (y := nI (tr t)) (hM.r) ?_
            refine lv_iconst (v := nI 1) hx hb dX5_shares_73 (by decide) ?_
            refine lv_icmp_ne (tgt := 86) hx hb dX5_shares_74 (by decide) (fun cr1 => ?_) (fun cr1 => ?_)
            · have cr1 := mt (nI_eq (by omega) (by omega)).mpr cr1
              refine lv_aload_n hx hb dX5_shares_86 rfl (lv_at hl 0 rfl) ?_
              refine lv_iload hx hb dX5_shares_87 (lv_at hl 6 rfl) ?_
              refine sp_vi0 (n := 1) SF hK hA (c_X5_age l g a (v.1, v.2.1, v.2.2.1, v.2.2.2.1, v.2.2.2.2.1, v.2.2.2.2.2.1, v.2.2.2.2.2.2.1, v.2.2.2.2.2.2.2.1, v.2.2.2.2.2.2.2.2.1, v.2.2.2.2.2.2.2.2.2.1, pf) t hM hI k (by omega)) gX5_shares_X5_age rfl rfl rfl (by decide +kernel) rfl ⟨Nat.le_of_ble_eq_true rfl, Nat.le_of_ble_eq_true rfl⟩ 5 0 rfl rfl hP hD hS hl.1 rfl (Nat.le_of_ble_eq_true rfl) dX5_shares_89 (fun r9 u9 H locs w11 hP hD hS => ?_)
              subst w11
              have hP : va_P g.1 vwCl (mdW g a (v.1, v.2.1, v.2.2.1, v.2.2.2.1, v.2.2.2.2.1, v.2.2.2.2.2.1, v.2.2.2.2.2.2.1, v.2.2.2.2.2.2.2.1, v.2.2.2.2.2.2.2.2.1, v.2.2.2.2.2.2.2.2.2.1, pf)) H := hP
              have hD : va_D A (mdW g a (v.1, v.2.1, v.2.2.1, v.2.2.2.1, v.2.2.2.2.1, v.2.2.2.2.2.1, v.2.2.2.2.2.2.1, v.2.2.2.2.2.2.2.1, v.2.2.2.2.2.2.2.2.1, v.2.2.2.2.2.2.2.2.2.1, pf)) := hD
              refine sp_top (y := nI (sp_prt t k)) (congrArg nI (by unfold sp_prt; first | rw [if_pos cr0, if_pos ca] | rw [if_pos cr0, if_neg ca] | rw [if_neg cr0, if_pos cr1] | rw [if_neg cr0, if_neg cr1])) ?_
              refine va_iast hx hb hK.1 hP hD hS 8 0 rfl rfl (vp_in_nI (by omega) (by omega)) dX5_shares_92 (fun H locs hP hD hS => ?_)
              rw [sp_c8 (k := k) (by omega)] at hP hD
              have hP : va_P g.1 vwCl (mdW g a (v.1, v.2.1, v.2.2.1, v.2.2.2.1, v.2.2.2.2.1, v.2.2.2.2.2.1, v.2.2.2.2.2.2.1, v.2.2.2.2.2.2.2.1, v.2.2.2.2.2.2.2.2.1, v.2.2.2.2.2.2.2.2.2.1, (upd pf k (nI (sp_prt t k))))) H := hP
              have hD : va_D A (mdW g a (v.1, v.2.1, v.2.2.1, v.2.2.2.1, v.2.2.2.2.1, v.2.2.2.2.2.1, v.2.2.2.2.2.2.1, v.2.2.2.2.2.2.2.1, v.2.2.2.2.2.2.2.2.1, v.2.2.2.2.2.2.2.2.2.1, (upd pf k (nI (sp_prt t k))))) := hD
              refine lv_iload hx hb dX5_shares_93 (lv_at hl 5 rfl) ?_
              refine lv_aload_n hx hb dX5_shares_95 rfl (lv_at hl 0 rfl) ?_
              refine va_get (D := g.1) (ci := 5) (v := .ref a.2.2.2.2.2.2.2.2) (C := RX5) (T := TX5) (N := 11) hx hb hts inX5 hown hK.1 hP 0 rfl rfl 10 (by decide) (hts _ (List.mem_of_getElem? (i := 1) rfl)) (fun _ h9 => h9) rfl dX5_shares_96 ?_
              refine lv_iload hx hb dX5_shares_99 (lv_at hl 6 rfl) ?_
              refine va_iald hx hb hK.1 hP 8 0 rfl rfl (vp_in_nI (by omega) (by omega)) dX5_shares_101 ?_
              refine sp_top (y := (upd pf k (nI (sp_prt t k))) k) (congrArg (upd pf k (nI (sp_prt t k))) (sp_c8 (by omega))) ?_
              refine sp_top (y := nI (sp_prt t k)) (sp_upd_s) ?_
              refine lv_iadd hx hb dX5_shares_102 ?_
              refine sp_top (y := nI (al + (sp_prt t k))) (nI_add _ _) ?_
              refine lv_istore (lv' := [(5, .int (nI (al + (sp_prt t k)))), (0, .ref a.1), (1, .int (nI i)), (2, .int q), (3, .int (nI (sp_low t i))), (4, .int (nI (sp_hi t i))), (6, .int (nI k))]) hx hb dX5_shares_103 hl (by decide) rfl (fun ls hl => ?_)
              refine lv_iinc (v := nI (k + 1)) (lv' := [(6, .int (nI (k + 1))), (5, .int (nI (al + (sp_prt t k)))), (0, .ref a.1), (1, .int (nI i)), (2, .int q), (3, .int (nI (sp_low t i))), (4, .int (nI (sp_hi t i)))]) hx hb dX5_shares_105 hl (k := 6) rfl (nI_1 k) (by decide) rfl (fun ls hl => ?_)
              refine lv_goto (tgt := 28) hx hb dX5_shares_108 (by decide) ?_
              exact ih28 (k + 1) (al + sp_prt t k) (upd pf k (nI (sp_prt t k))) _ _ _ (by omega) (by omega) (sp_upd_ext (F := fun j => nI (sp_prt t j)) hpf rfl) (by rw [← hal, lp_step (sp_als (sp_prt t)) (show k < sp_hi t i + 1 by omega)]; rfl) (by omega) (by omega) hP hD hS (lv_sub hl [2, 3, 4, 5, 6, 1, 0] rfl)
            · have cr1 := (nI_eq (by omega) (by omega)).mp cr1
              refine lv_aload_n hx hb dX5_shares_77 rfl (lv_at hl 0 rfl) ?_
              refine lv_iload hx hb dX5_shares_78 (lv_at hl 6 rfl) ?_
              refine sp_vi0 (n := 1) SF hK hA (c_X5_strength l g a (v.1, v.2.1, v.2.2.1, v.2.2.2.1, v.2.2.2.2.1, v.2.2.2.2.2.1, v.2.2.2.2.2.2.1, v.2.2.2.2.2.2.2.1, v.2.2.2.2.2.2.2.2.1, v.2.2.2.2.2.2.2.2.2.1, pf) t hM hI k (by omega)) gX5_shares_X5_strength rfl rfl rfl (by decide +kernel) rfl ⟨Nat.le_of_ble_eq_true rfl, Nat.le_of_ble_eq_true rfl⟩ 5 0 rfl rfl hP hD hS hl.1 rfl (Nat.le_of_ble_eq_true rfl) dX5_shares_80 (fun r9 u9 H locs w12 hP hD hS => ?_)
              subst w12
              have hP : va_P g.1 vwCl (mdW g a (v.1, v.2.1, v.2.2.1, v.2.2.2.1, v.2.2.2.2.1, v.2.2.2.2.2.1, v.2.2.2.2.2.2.1, v.2.2.2.2.2.2.2.1, v.2.2.2.2.2.2.2.2.1, v.2.2.2.2.2.2.2.2.2.1, pf)) H := hP
              have hD : va_D A (mdW g a (v.1, v.2.1, v.2.2.1, v.2.2.2.1, v.2.2.2.2.1, v.2.2.2.2.2.1, v.2.2.2.2.2.2.1, v.2.2.2.2.2.2.2.1, v.2.2.2.2.2.2.2.2.1, v.2.2.2.2.2.2.2.2.2.1, pf)) := hD
              refine lv_goto (tgt := 92) hx hb dX5_shares_83 (by decide) ?_
              refine sp_top (y := nI (sp_prt t k)) (congrArg nI (by unfold sp_prt; first | rw [if_pos cr0, if_pos ca] | rw [if_pos cr0, if_neg ca] | rw [if_neg cr0, if_pos cr1] | rw [if_neg cr0, if_neg cr1])) ?_
              refine va_iast hx hb hK.1 hP hD hS 8 0 rfl rfl (vp_in_nI (by omega) (by omega)) dX5_shares_92 (fun H locs hP hD hS => ?_)
              rw [sp_c8 (k := k) (by omega)] at hP hD
              have hP : va_P g.1 vwCl (mdW g a (v.1, v.2.1, v.2.2.1, v.2.2.2.1, v.2.2.2.2.1, v.2.2.2.2.2.1, v.2.2.2.2.2.2.1, v.2.2.2.2.2.2.2.1, v.2.2.2.2.2.2.2.2.1, v.2.2.2.2.2.2.2.2.2.1, (upd pf k (nI (sp_prt t k))))) H := hP
              have hD : va_D A (mdW g a (v.1, v.2.1, v.2.2.1, v.2.2.2.1, v.2.2.2.2.1, v.2.2.2.2.2.1, v.2.2.2.2.2.2.1, v.2.2.2.2.2.2.2.1, v.2.2.2.2.2.2.2.2.1, v.2.2.2.2.2.2.2.2.2.1, (upd pf k (nI (sp_prt t k))))) := hD
              refine lv_iload hx hb dX5_shares_93 (lv_at hl 5 rfl) ?_
              refine lv_aload_n hx hb dX5_shares_95 rfl (lv_at hl 0 rfl) ?_
              refine va_get (D := g.1) (ci := 5) (v := .ref a.2.2.2.2.2.2.2.2) (C := RX5) (T := TX5) (N := 11) hx hb hts inX5 hown hK.1 hP 0 rfl rfl 10 (by decide) (hts _ (List.mem_of_getElem? (i := 1) rfl)) (fun _ h9 => h9) rfl dX5_shares_96 ?_
              refine lv_iload hx hb dX5_shares_99 (lv_at hl 6 rfl) ?_
              refine va_iald hx hb hK.1 hP 8 0 rfl rfl (vp_in_nI (by omega) (by omega)) dX5_shares_101 ?_
              refine sp_top (y := (upd pf k (nI (sp_prt t k))) k) (congrArg (upd pf k (nI (sp_prt t k))) (sp_c8 (by omega))) ?_
              refine sp_top (y := nI (sp_prt t k)) (sp_upd_s) ?_
              refine lv_iadd hx hb dX5_shares_102 ?_
              refine sp_top (y := nI (al + (sp_prt t k))) (nI_add _ _) ?_
              refine lv_istore (lv' := [(5, .int (nI (al + (sp_prt t k)))), (0, .ref a.1), (1, .int (nI i)), (2, .int q), (3, .int (nI (sp_low t i))), (4, .int (nI (sp_hi t i))), (6, .int (nI k))]) hx hb dX5_shares_103 hl (by decide) rfl (fun ls hl => ?_)
              refine lv_iinc (v := nI (k + 1)) (lv' := [(6, .int (nI (k + 1))), (5, .int (nI (al + (sp_prt t k)))), (0, .ref a.1), (1, .int (nI i)), (2, .int q), (3, .int (nI (sp_low t i))), (4, .int (nI (sp_hi t i)))]) hx hb dX5_shares_105 hl (k := 6) rfl (nI_1 k) (by decide) rfl (fun ls hl => ?_)
              refine lv_goto (tgt := 28) hx hb dX5_shares_108 (by decide) ?_
              exact ih28 (k + 1) (al + sp_prt t k) (upd pf k (nI (sp_prt t k))) _ _ _ (by omega) (by omega) (sp_upd_ext (F := fun j => nI (sp_prt t j)) hpf rfl) (by rw [← hal, lp_step (sp_als (sp_prt t)) (show k < sp_hi t i + 1 by omega)]; rfl) (by omega) (by omega) hP hD hS (lv_sub hl [2, 3, 4, 5, 6, 1, 0] rfl)
          · have cr0 := (sp_z_eq (by omega)).mp cr0
            refine lv_aload_n hx hb dX5_shares_50 rfl (lv_at hl 0 rfl) ?_
            refine lv_iload hx hb dX5_shares_51 (lv_at hl 6 rfl) ?_
            refine sp_vi0 (n := 1) SF hK hA (c_X5_age l g a (v.1, v.2.1, v.2.2.1, v.2.2.2.1, v.2.2.2.2.1, v.2.2.2.2.2.1, v.2.2.2.2.2.2.1, v.2.2.2.2.2.2.2.1, v.2.2.2.2.2.2.2.2.1, v.2.2.2.2.2.2.2.2.2.1, pf) t hM hI k (by omega)) gX5_shares_X5_age rfl rfl rfl (by decide +kernel) rfl ⟨Nat.le_of_ble_eq_true rfl, Nat.le_of_ble_eq_true rfl⟩ 5 0 rfl rfl hP hD hS hl.1 rfl (Nat.le_of_ble_eq_true rfl) dX5_shares_53 (fun r9 u9 H locs w13 hP hD hS => ?_)
            subst w13
            have hP : va_P g.1 vwCl (mdW g a (v.1, v.2.1, v.2.2.1, v.2.2.2.1, v.2.2.2.2.1, v.2.2.2.2.2.1, v.2.2.2.2.2.2.1, v.2.2.2.2.2.2.2.1, v.2.2.2.2.2.2.2.2.1, v.2.2.2.2.2.2.2.2.2.1, pf)) H := hP
            have hD : va_D A (mdW g a (v.1, v.2.1, v.2.2.1, v.2.2.2.1, v.2.2.2.2.1, v.2.2.2.2.2.1, v.2.2.2.2.2.2.1, v.2.2.2.2.2.2.2.1, v.2.2.2.2.2.2.2.2.1, v.2.2.2.2.2.2.2.2.2.1, pf)) := hD
            refine lv_if_le (tgt := 63) hx hb dX5_shares_56 (by decide) (fun ca => ?_) (fun ca => ?_)
            · have ca := (sp_z_le (by omega)).mp ca
              refine lv_iconst (v := nI 0) hx hb dX5_shares_63 (by decide) ?_
              refine lv_goto (tgt := 92) hx hb dX5_shares_64 (by decide) ?_
              refine sp_top (y := nI (sp_prt t k)) (congrArg nI (by unfold sp_prt; first | rw [if_pos cr0, if_pos ca] | rw [if_pos cr0, if_neg ca] | rw [if_neg cr0, if_pos cr1] | rw [if_neg cr0, if_neg cr1])) ?_
              refine va_iast hx hb hK.1 hP hD hS 8 0 rfl rfl (vp_in_nI (by omega) (by omega)) dX5_shares_92 (fun H locs hP hD hS => ?_)
              rw [sp_c8 (k := k) (by omega)] at hP hD
              have hP : va_P g.1 vwCl (mdW g a (v.1, v.2.1, v.2.2.1, v.2.2.2.1, v.2.2.2.2.1, v.2.2.2.2.2.1, v.2.2.2.2.2.2.1, v.2.2.2.2.2.2.2.1, v.2.2.2.2.2.2.2.2.1, v.2.2.2.2.2.2.2.2.2.1, (upd pf k (nI (sp_prt t k))))) H := hP
              have hD : va_D A (mdW g a (v.1, v.2.1, v.2.2.1, v.2.2.2.1, v.2.2.2.2.1, v.2.2.2.2.2.1, v.2.2.2.2.2.2.1, v.2.2.2.2.2.2.2.1, v.2.2.2.2.2.2.2.2.1, v.2.2.2.2.2.2.2.2.2.1, (upd pf k (nI (sp_prt t k))))) := hD
              refine lv_iload hx hb dX5_shares_93 (lv_at hl 5 rfl) ?_
              refine lv_aload_n hx hb dX5_shares_95 rfl (lv_at hl 0 rfl) ?_
              refine va_get (D := g.1) (ci := 5) (v := .ref a.2.2.2.2.2.2.2.2) (C := RX5) (T := TX5) (N := 11) hx hb hts inX5 hown hK.1 hP 0 rfl rfl 10 (by decide) (hts _ (List.mem_of_getElem? (i := 1) rfl)) (fun _ h9 => h9) rfl dX5_shares_96 ?_
              refine lv_iload hx hb dX5_shares_99 (lv_at hl 6 rfl) ?_
              refine va_iald hx hb hK.1 hP 8 0 rfl rfl (vp_in_nI (by omega) (by omega)) dX5_shares_101 ?_
              refine sp_top (y := (upd pf k (nI (sp_prt t k))) k) (congrArg (upd pf k (nI (sp_prt t k))) (sp_c8 (by omega))) ?_
              refine sp_top (y := nI (sp_prt t k)) (sp_upd_s) ?_
              refine lv_iadd hx hb dX5_shares_102 ?_
              refine sp_top (y := nI (al + (sp_prt t k))) (nI_add _ _) ?_
              refine lv_istore (lv' := [(5, .int (nI (al + (sp_prt t k)))), (0, .ref a.1), (1, .int (nI i)), (2, .int q), (3, .int (nI (sp_low t i))), (4, .int (nI (sp_hi t i))), (6, .int (nI k))]) hx hb dX5_shares_103 hl (by decide) rfl (fun ls hl => ?_)
              refine lv_iinc (v := nI (k + 1)) (lv' := [(6, .int (nI (k + 1))), (5, .int (nI (al + (sp_prt t k)))), (0, .ref a.1), (1, .int (nI i)), (2, .int q), (3, .int (nI (sp_low t i))), (4, .int (nI (sp_hi t i)))]) hx hb dX5_shares_105 hl (k := 6) rfl (nI_1 k) (by decide) rfl (fun ls hl => ?_)
              refine lv_goto (tgt := 28) hx hb dX5_shares_108 (by decide) ?_
              exact ih28 (k + 1) (al + sp_prt t k) (upd pf k (nI (sp_prt t k))) _ _ _ (by omega) (by omega) (sp_upd_ext (F := fun j => nI (sp_prt t j)) hpf rfl) (by rw [← hal, lp_step (sp_als (sp_prt t)) (show k < sp_hi t i + 1 by omega)]; rfl) (by omega) (by omega) hP hD hS (lv_sub hl [2, 3, 4, 5, 6, 1, 0] rfl)
            · have ca := mt (sp_z_le (by omega)).mpr ca
              refine lv_iconst (v := nI 1) hx hb dX5_shares_59 (by decide) ?_
              refine lv_goto (tgt := 92) hx hb dX5_shares_60 (by decide) ?_
              refine sp_top (y := nI (sp_prt t k)) (congrArg nI (by unfold sp_prt; first | rw [if_pos cr0, if_pos ca] | rw [if_pos cr0, if_neg ca] | rw [if_neg cr0, if_pos cr1] | rw [if_neg cr0, if_neg cr1])) ?_
              refine va_iast hx hb hK.1 hP hD hS 8 0 rfl rfl (vp_in_nI (by omega) (by omega)) dX5_shares_92 (fun H locs hP hD hS => ?_)
              rw [sp_c8 (k := k) (by omega)] at hP hD
              have hP : va_P g.1 vwCl (mdW g a (v.1, v.2.1, v.2.2.1, v.2.2.2.1, v.2.2.2.2.1, v.2.2.2.2.2.1, v.2.2.2.2.2.2.1, v.2.2.2.2.2.2.2.1, v.2.2.2.2.2.2.2.2.1, v.2.2.2.2.2.2.2.2.2.1, (upd pf k (nI (sp_prt t k))))) H := hP
              have hD : va_D A (mdW g a (v.1, v.2.1, v.2.2.1, v.2.2.2.1, v.2.2.2.2.1, v.2.2.2.2.2.1, v.2.2.2.2.2.2.1, v.2.2.2.2.2.2.2.1, v.2.2.2.2.2.2.2.2.1, v.2.2.2.2.2.2.2.2.2.1, (upd pf k (nI (sp_prt t k))))) := hD
              refine lv_iload hx hb dX5_shares_93 (lv_at hl 5 rfl) ?_
              refine lv_aload_n hx hb dX5_shares_95 rfl (lv_at hl 0 rfl) ?_
              refine va_get (D := g.1) (ci := 5) (v := .ref a.2.2.2.2.2.2.2.2) (C := RX5) (T := TX5) (N := 11) hx hb hts inX5 hown hK.1 hP 0 rfl rfl 10 (by decide) (hts _ (List.mem_of_getElem? (i := 1) rfl)) (fun _ h9 => h9) rfl dX5_shares_96 ?_
              refine lv_iload hx hb dX5_shares_99 (lv_at hl 6 rfl) ?_
              refine va_iald hx hb hK.1 hP 8 0 rfl rfl (vp_in_nI (by omega) (by omega)) dX5_shares_101 ?_
              refine sp_top (y := (upd pf k (nI (sp_prt t k))) k) (congrArg (upd pf k (nI (sp_prt t k))) (sp_c8 (by omega))) ?_
              refine sp_top (y := nI (sp_prt t k)) (sp_upd_s) ?_
              refine lv_iadd hx hb dX5_shares_102 ?_
              refine sp_top (y := nI (al + (sp_prt t k))) (nI_add _ _) ?_
              refine lv_istore (lv' := [(5, .int (nI (al + (sp_prt t k)))), (0, .ref a.1), (1, .int (nI i)), (2, .int q), (3, .int (nI (sp_low t i))), (4, .int (nI (sp_hi t i))), (6, .int (nI k))]) hx hb dX5_shares_103 hl (by decide) rfl (fun ls hl => ?_)
              refine lv_iinc (v := nI (k + 1)) (lv' := [(6, .int (nI (k + 1))), (5, .int (nI (al + (sp_prt t k)))), (0, .ref a.1), (1, .int (nI i)), (2, .int q), (3, .int (nI (sp_low t i))), (4, .int (nI (sp_hi t i)))]) hx hb dX5_shares_105 hl (k := 6) rfl (nI_1 k) (by decide) rfl (fun ls hl => ?_)
              refine lv_goto (tgt := 28) hx hb dX5_shares_108 (by decide) ?_
              exact ih28 (k + 1) (al + sp_prt t k) (upd pf k (nI (sp_prt t k))) _ _ _ (by omega) (by omega) (sp_upd_ext (F := fun j => nI (sp_prt t j)) hpf rfl) (by rw [← hal, lp_step (sp_als (sp_prt t)) (show k < sp_hi t i + 1 by omega)]; rfl) (by omega) (by omega) hP hD hS (lv_sub hl [2, 3, 4, 5, 6, 1, 0] rfl)
    exact hloop28 (_ + 1) (sp_low t i) 0 v.2.2.2.2.2.2.2.2.2.2 _ _ _ (Nat.le_refl _) (by omega) (fun j h1 h2 => absurd h1 (by omega)) (rfl) (Nat.zero_le _) (Nat.lt_succ_self _) hP hD hS (lv_sub hl [4, 5, 6, 3, 2, 1, 0] rfl)
  · have c1 := sp_b0n.mp c1
    have hgr : sp_gr t i = true := hbb.symm.trans c1
    exact hend _ _ _ _ (v.1, v.2.2.2.2.2.2.2.2.2.2) dX5_shares_8 (by unfold sp_shr; rw [hgr]; exact hM) hP hD hS
end
