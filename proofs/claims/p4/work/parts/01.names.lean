-- ===== PART A: goes FIRST, ahead of the names: the tables' words, and 'selects' of the private methods out of them =====
/-- a private method of a class that the tables say can be made, by its rows of tables_1 -/
def lw_okq (q : MethodName × Nat) : Prop := (q.1.cls ≠ "java/lang/invoke/MethodHandle" ∧ q.1.cls ≠ "java/lang/invoke/VarHandle") ∧ Cond.instantiable q.1.cls q.2 ∈ tables_1 ∧ Cond.privateMethod q.1 ∈ tables_1 ∧ Cond.instanceMethod q.1 ∈ tables_1
theorem lw_p0 : lw_okq (⟨"BlindSown$Crew", "turnToBell", "(LBlindSown$Sower;)V"⟩, 4) := ⟨⟨by decide +kernel, by decide +kernel⟩, List.mem_of_getElem? (i := 65) (by decide +kernel), List.mem_of_getElem? (i := 372) (by decide +kernel), List.mem_of_getElem? (i := 373) (by decide +kernel)⟩
theorem lw_p1 : lw_okq (⟨"BlindSown$Trail", "visit", "(II)V"⟩, 3) := ⟨⟨by decide +kernel, by decide +kernel⟩, List.mem_of_getElem? (i := 209) (by decide +kernel), List.mem_of_getElem? (i := 477) (by decide +kernel), List.mem_of_getElem? (i := 478) (by decide +kernel)⟩
theorem lw_p2 : lw_okq (⟨"BlindSown$BellSearch", "tryPosts", "(IIILBlindSown$Land;LBlindSown$Pad;)V"⟩, 5) := ⟨⟨by decide +kernel, by decide +kernel⟩, List.mem_of_getElem? (i := 147) (by decide +kernel), List.mem_of_getElem? (i := 495) (by decide +kernel), List.mem_of_getElem? (i := 496) (by decide +kernel)⟩
theorem lw_p3 : lw_okq (⟨"BlindSown$Land", "allSteps", "()I"⟩, 3) := ⟨⟨by decide +kernel, by decide +kernel⟩, List.mem_of_getElem? (i := 41) (by decide +kernel), List.mem_of_getElem? (i := 582) (by decide +kernel), List.mem_of_getElem? (i := 583) (by decide +kernel)⟩
theorem lw_p4 : lw_okq (⟨"BlindSown$Land", "claim", "(II)I"⟩, 3) := ⟨⟨by decide +kernel, by decide +kernel⟩, List.mem_of_getElem? (i := 41) (by decide +kernel), List.mem_of_getElem? (i := 587) (by decide +kernel), List.mem_of_getElem? (i := 588) (by decide +kernel)⟩
theorem lw_p5 : lw_okq (⟨"BlindSownModel", "of", "(II)I"⟩, 25) := ⟨⟨by decide +kernel, by decide +kernel⟩, List.mem_of_getElem? (i := 628) (by decide +kernel), List.mem_of_getElem? (i := 722) (by decide +kernel), List.mem_of_getElem? (i := 723) (by decide +kernel)⟩
theorem lw_p6 : lw_okq (⟨"BlindSownModel", "lay", "()V"⟩, 25) := ⟨⟨by decide +kernel, by decide +kernel⟩, List.mem_of_getElem? (i := 628) (by decide +kernel), List.mem_of_getElem? (i := 770) (by decide +kernel), List.mem_of_getElem? (i := 771) (by decide +kernel)⟩
theorem lw_p7 : lw_okq (⟨"BlindSownModel", "partsOf", "()I"⟩, 25) := ⟨⟨by decide +kernel, by decide +kernel⟩, List.mem_of_getElem? (i := 628) (by decide +kernel), List.mem_of_getElem? (i := 774) (by decide +kernel), List.mem_of_getElem? (i := 775) (by decide +kernel)⟩
theorem lw_p8 : lw_okq (⟨"BlindSownModel", "goNight", "(I)V"⟩, 25) := ⟨⟨by decide +kernel, by decide +kernel⟩, List.mem_of_getElem? (i := 628) (by decide +kernel), List.mem_of_getElem? (i := 778) (by decide +kernel), List.mem_of_getElem? (i := 779) (by decide +kernel)⟩
theorem lw_p9 : lw_okq (⟨"BlindSownModel", "turn", "(II)V"⟩, 25) := ⟨⟨by decide +kernel, by decide +kernel⟩, List.mem_of_getElem? (i := 628) (by decide +kernel), List.mem_of_getElem? (i := 782) (by decide +kernel), List.mem_of_getElem? (i := 783) (by decide +kernel)⟩
theorem lw_p10 : lw_okq (⟨"BlindSownModel", "turnToPost", "(I)V"⟩, 25) := ⟨⟨by decide +kernel, by decide +kernel⟩, List.mem_of_getElem? (i := 628) (by decide +kernel), List.mem_of_getElem? (i := 786) (by decide +kernel), List.mem_of_getElem? (i := 787) (by decide +kernel)⟩
theorem lw_p11 : lw_okq (⟨"BlindSownModel", "nearest", "(I)I"⟩, 25) := ⟨⟨by decide +kernel, by decide +kernel⟩, List.mem_of_getElem? (i := 628) (by decide +kernel), List.mem_of_getElem? (i := 790) (by decide +kernel), List.mem_of_getElem? (i := 791) (by decide +kernel)⟩
theorem lw_p12 : lw_okq (⟨"BlindSownModel", "go", "(IIZ)V"⟩, 25) := ⟨⟨by decide +kernel, by decide +kernel⟩, List.mem_of_getElem? (i := 628) (by decide +kernel), List.mem_of_getElem? (i := 807) (by decide +kernel), List.mem_of_getElem? (i := 808) (by decide +kernel)⟩
theorem lw_p13 : lw_okq (⟨"BlindSownModel", "grainsIn", "(I)I"⟩, 25) := ⟨⟨by decide +kernel, by decide +kernel⟩, List.mem_of_getElem? (i := 628) (by decide +kernel), List.mem_of_getElem? (i := 825) (by decide +kernel), List.mem_of_getElem? (i := 826) (by decide +kernel)⟩
theorem lw_p14 : lw_okq (⟨"BlindSownModel", "layImage", "(I)V"⟩, 25) := ⟨⟨by decide +kernel, by decide +kernel⟩, List.mem_of_getElem? (i := 628) (by decide +kernel), List.mem_of_getElem? (i := 841) (by decide +kernel), List.mem_of_getElem? (i := 842) (by decide +kernel)⟩
theorem lw_p15 : lw_okq (⟨"BlindSownModel", "isAsNow", "()Z"⟩, 25) := ⟨⟨by decide +kernel, by decide +kernel⟩, List.mem_of_getElem? (i := 628) (by decide +kernel), List.mem_of_getElem? (i := 845) (by decide +kernel), List.mem_of_getElem? (i := 846) (by decide +kernel)⟩
def lw_privs_1 : List (MethodName × Nat) := [(⟨"BlindSown$Crew", "turnToBell", "(LBlindSown$Sower;)V"⟩, 4), (⟨"BlindSown$Trail", "visit", "(II)V"⟩, 3), (⟨"BlindSown$BellSearch", "tryPosts", "(IIILBlindSown$Land;LBlindSown$Pad;)V"⟩, 5), (⟨"BlindSown$Land", "allSteps", "()I"⟩, 3), (⟨"BlindSown$Land", "claim", "(II)I"⟩, 3), (⟨"BlindSownModel", "of", "(II)I"⟩, 25), (⟨"BlindSownModel", "lay", "()V"⟩, 25), (⟨"BlindSownModel", "partsOf", "()I"⟩, 25), (⟨"BlindSownModel", "goNight", "(I)V"⟩, 25), (⟨"BlindSownModel", "turn", "(II)V"⟩, 25), (⟨"BlindSownModel", "turnToPost", "(I)V"⟩, 25), (⟨"BlindSownModel", "nearest", "(I)I"⟩, 25), (⟨"BlindSownModel", "go", "(IIZ)V"⟩, 25), (⟨"BlindSownModel", "grainsIn", "(I)I"⟩, 25), (⟨"BlindSownModel", "layImage", "(I)V"⟩, 25), (⟨"BlindSownModel", "isAsNow", "()Z"⟩, 25)]
theorem lw_r1 : ∀ q ∈ lw_privs_1, lw_okq q := List.forall_mem_cons.mpr ⟨lw_p0, List.forall_mem_cons.mpr ⟨lw_p1, List.forall_mem_cons.mpr ⟨lw_p2, List.forall_mem_cons.mpr ⟨lw_p3, List.forall_mem_cons.mpr ⟨lw_p4, List.forall_mem_cons.mpr ⟨lw_p5, List.forall_mem_cons.mpr ⟨lw_p6, List.forall_mem_cons.mpr ⟨lw_p7, List.forall_mem_cons.mpr ⟨lw_p8, List.forall_mem_cons.mpr ⟨lw_p9, List.forall_mem_cons.mpr ⟨lw_p10, List.forall_mem_cons.mpr ⟨lw_p11, List.forall_mem_cons.mpr ⟨lw_p12, List.forall_mem_cons.mpr ⟨lw_p13, List.forall_mem_cons.mpr ⟨lw_p14, List.forall_mem_cons.mpr ⟨lw_p15, fun _ h => absurd h List.not_mem_nil⟩⟩⟩⟩⟩⟩⟩⟩⟩⟩⟩⟩⟩⟩⟩⟩
theorem lw_p16 : lw_okq (⟨"BlindSownModel", "be", "(II)V"⟩, 25) := ⟨⟨by decide +kernel, by decide +kernel⟩, List.mem_of_getElem? (i := 628) (by decide +kernel), List.mem_of_getElem? (i := 855) (by decide +kernel), List.mem_of_getElem? (i := 856) (by decide +kernel)⟩
theorem lw_p17 : lw_okq (⟨"BlindSownModel", "tryBells", "(III)V"⟩, 25) := ⟨⟨by decide +kernel, by decide +kernel⟩, List.mem_of_getElem? (i := 628) (by decide +kernel), List.mem_of_getElem? (i := 864) (by decide +kernel), List.mem_of_getElem? (i := 865) (by decide +kernel)⟩
theorem lw_p18 : lw_okq (⟨"BlindSownModel", "strayedNow", "()I"⟩, 25) := ⟨⟨by decide +kernel, by decide +kernel⟩, List.mem_of_getElem? (i := 628) (by decide +kernel), List.mem_of_getElem? (i := 868) (by decide +kernel), List.mem_of_getElem? (i := 869) (by decide +kernel)⟩
theorem lw_p19 : lw_okq (⟨"BlindSownModel", "steal", "(II)V"⟩, 25) := ⟨⟨by decide +kernel, by decide +kernel⟩, List.mem_of_getElem? (i := 628) (by decide +kernel), List.mem_of_getElem? (i := 876) (by decide +kernel), List.mem_of_getElem? (i := 877) (by decide +kernel)⟩
theorem lw_p20 : lw_okq (⟨"BlindSownModel", "heardBy", "(I)I"⟩, 25) := ⟨⟨by decide +kernel, by decide +kernel⟩, List.mem_of_getElem? (i := 628) (by decide +kernel), List.mem_of_getElem? (i := 880) (by decide +kernel), List.mem_of_getElem? (i := 881) (by decide +kernel)⟩
theorem lw_p21 : lw_okq (⟨"BlindSownModel", "overOf", "(IIZ)I"⟩, 25) := ⟨⟨by decide +kernel, by decide +kernel⟩, List.mem_of_getElem? (i := 628) (by decide +kernel), List.mem_of_getElem? (i := 909) (by decide +kernel), List.mem_of_getElem? (i := 910) (by decide +kernel)⟩
theorem lw_p22 : lw_okq (⟨"BlindSownModel", "harvest", "()I"⟩, 25) := ⟨⟨by decide +kernel, by decide +kernel⟩, List.mem_of_getElem? (i := 628) (by decide +kernel), List.mem_of_getElem? (i := 921) (by decide +kernel), List.mem_of_getElem? (i := 922) (by decide +kernel)⟩
theorem lw_p23 : lw_okq (⟨"BlindSownModel", "walkedAll", "()I"⟩, 25) := ⟨⟨by decide +kernel, by decide +kernel⟩, List.mem_of_getElem? (i := 628) (by decide +kernel), List.mem_of_getElem? (i := 925) (by decide +kernel), List.mem_of_getElem? (i := 926) (by decide +kernel)⟩
theorem lw_p24 : lw_okq (⟨"BlindSownModel", "partOf", "(I)I"⟩, 25) := ⟨⟨by decide +kernel, by decide +kernel⟩, List.mem_of_getElem? (i := 628) (by decide +kernel), List.mem_of_getElem? (i := 929) (by decide +kernel), List.mem_of_getElem? (i := 930) (by decide +kernel)⟩
theorem lw_p25 : lw_okq (⟨"BlindSownModel", "restOf", "(II)J"⟩, 25) := ⟨⟨by decide +kernel, by decide +kernel⟩, List.mem_of_getElem? (i := 628) (by decide +kernel), List.mem_of_getElem? (i := 933) (by decide +kernel), List.mem_of_getElem? (i := 934) (by decide +kernel)⟩
theorem lw_p26 : lw_okq (⟨"BlindSownModel", "passAll", "()V"⟩, 25) := ⟨⟨by decide +kernel, by decide +kernel⟩, List.mem_of_getElem? (i := 628) (by decide +kernel), List.mem_of_getElem? (i := 949) (by decide +kernel), List.mem_of_getElem? (i := 950) (by decide +kernel)⟩
theorem lw_p27 : lw_okq (⟨"BlindSownModel", "pass", "(I)I"⟩, 25) := ⟨⟨by decide +kernel, by decide +kernel⟩, List.mem_of_getElem? (i := 628) (by decide +kernel), List.mem_of_getElem? (i := 953) (by decide +kernel), List.mem_of_getElem? (i := 954) (by decide +kernel)⟩
theorem lw_p28 : lw_okq (⟨"BlindSownModel", "bags", "()I"⟩, 25) := ⟨⟨by decide +kernel, by decide +kernel⟩, List.mem_of_getElem? (i := 628) (by decide +kernel), List.mem_of_getElem? (i := 966) (by decide +kernel), List.mem_of_getElem? (i := 967) (by decide +kernel)⟩
def lw_privs_2 : List (MethodName × Nat) := [(⟨"BlindSownModel", "be", "(II)V"⟩, 25), (⟨"BlindSownModel", "tryBells", "(III)V"⟩, 25), (⟨"BlindSownModel", "strayedNow", "()I"⟩, 25), (⟨"BlindSownModel", "steal", "(II)V"⟩, 25), (⟨"BlindSownModel", "heardBy", "(I)I"⟩, 25), (⟨"BlindSownModel", "overOf", "(IIZ)I"⟩, 25), (⟨"BlindSownModel", "harvest", "()I"⟩, 25), (⟨"BlindSownModel", "walkedAll", "()I"⟩, 25), (⟨"BlindSownModel", "partOf", "(I)I"⟩, 25), (⟨"BlindSownModel", "restOf", "(II)J"⟩, 25), (⟨"BlindSownModel", "passAll", "()V"⟩, 25), (⟨"BlindSownModel", "pass", "(I)I"⟩, 25), (⟨"BlindSownModel", "bags", "()I"⟩, 25)]
theorem lw_r2 : ∀ q ∈ lw_privs_2, lw_okq q := List.forall_mem_cons.mpr ⟨lw_p16, List.forall_mem_cons.mpr ⟨lw_p17, List.forall_mem_cons.mpr ⟨lw_p18, List.forall_mem_cons.mpr ⟨lw_p19, List.forall_mem_cons.mpr ⟨lw_p20, List.forall_mem_cons.mpr ⟨lw_p21, List.forall_mem_cons.mpr ⟨lw_p22, List.forall_mem_cons.mpr ⟨lw_p23, List.forall_mem_cons.mpr ⟨lw_p24, List.forall_mem_cons.mpr ⟨lw_p25, List.forall_mem_cons.mpr ⟨lw_p26, List.forall_mem_cons.mpr ⟨lw_p27, List.forall_mem_cons.mpr ⟨lw_p28, fun _ h => absurd h List.not_mem_nil⟩⟩⟩⟩⟩⟩⟩⟩⟩⟩⟩⟩⟩
def lw_privs : List (MethodName × Nat) := lw_privs_1 ++ (lw_privs_2)
def lw_tbl : List Cond := k2_sels lw_privs ++ tables_1
theorem lw_privs_ok : ∀ q ∈ lw_privs, lw_okq q := by
  show ∀ q ∈ lw_privs_1 ++ (lw_privs_2), lw_okq q
  exact List.forall_mem_append.mpr ⟨lw_r1, lw_r2⟩
/-! ===== BEGIN words of one list among another's, by their places ===== -/
theorem goodIn_r {big : List Cond} (ws : List Cond) (ps : List Nat) (hp : ws = ps.filterMap (fun i => big[i]?)) (h : ws.all goodWord = true) : GoodIn big ws := by
  intro w hw
  have h1 := List.all_eq_true.mp h w hw
  rw [hp] at hw
  obtain ⟨i, -, hi⟩ := List.mem_filterMap.mp hw
  have hm : w ∈ big := by first | exact List.mem_of_getElem? hi | exact List.getElem?_mem hi
  exact ⟨hm, good_of_word h1⟩
theorem goodIn_app {big a b : List Cond} (ha : GoodIn big a) (hb : GoodIn big b) : GoodIn big (a ++ b) := fun w h => (List.mem_append.mp h).elim (ha w) (hb w)
theorem goodIn_ca {big a b : List Cond} {c : Cond} (ha : GoodIn big (c :: a)) (hb : GoodIn big b) : GoodIn big (c :: (a ++ b)) := fun w h => (List.mem_cons.mp h).elim (fun e => ha w (List.mem_cons.mpr (Or.inl e))) (fun h => (List.mem_append.mp h).elim (fun h => ha w (List.mem_cons.mpr (Or.inr h))) (hb w))
theorem goodIn_sub {big ws : List Cond} (hm : ∀ w ∈ ws, w ∈ big) (h : ws.all goodWord = true) : GoodIn big ws := fun w hw => ⟨hm w hw, good_of_word (List.all_eq_true.mp h w hw)⟩
/-! ===== END ===== -/

/-! ===== BEGIN printed: names, fields, word lists, decode rows ===== -/
def RX0 : String := "BlindSown$BellSearch"
def TX0 : u_T := fun k => match k with
  | 0 => ("BlindSown$BellSearch", "crew", "LBlindSown$Crew;", true)
  | 1 => ("BlindSown$BellSearch", "tally", "LBlindSown$StrayTally;", true)
  | 2 => ("BlindSown$BellSearch", "fewest", "I", false)
  | 3 => ("BlindSown$BellSearch", "first", "I", false)
  | _ => ("BlindSown$BellSearch", "second", "I", false)
def tyX0 : Nat → FieldType := fun k => match k with
  | 0 => .object "BlindSown$Crew"
  | 1 => .object "BlindSown$StrayTally"
  | 2 => .int
  | 3 => .int
  | _ => .int
abbrev wsX00 : List Cond := u_ws RX0 TX0 5
theorem nmX0 : ∀ a, a < 5 → ∀ b, b < 5 → a ≠ b → (TX0 a).2.1 ≠ (TX0 b).2.1 := by decide +kernel
theorem tyX0_ok : ∀ k, k < 5 → parseFieldDescriptor (TX0 k).2.2.1 = some (tyX0 k) := by decide +kernel
abbrev cX0_init : ByteArray := prog_2_method_1_code
def yX0_init : MethodName := ⟨RX0, "<init>", "()V"⟩
abbrev cX0_seek : ByteArray := prog_2_method_2_code
def yX0_seek : MethodName := ⟨RX0, "seek", "(ILBlindSown$Land;LBlindSown$Pad;)V"⟩
abbrev cX0_tryPosts : ByteArray := prog_2_method_3_code
def yX0_tryPosts : MethodName := ⟨RX0, "tryPosts", "(IIILBlindSown$Land;LBlindSown$Pad;)V"⟩
def RX1 : String := "BlindSown$Crew"
def TX1 : u_T := fun k => match k with
  | 0 => ("BlindSown$Crew", "sowers", "[LBlindSown$Sower;", true)
  | 1 => ("BlindSown$Crew", "posts", "[I", true)
  | 2 => ("BlindSown$Crew", "postCount", "I", false)
  | _ => ("BlindSown$Crew", "going", "I", false)
def tyX1 : Nat → FieldType := fun k => match k with
  | 0 => .array (.object "BlindSown$Sower")
  | 1 => .array .int
  | 2 => .int
  | _ => .int
abbrev wsX10 : List Cond := u_ws RX1 TX1 4
theorem nmX1 : ∀ a, a < 4 → ∀ b, b < 4 → a ≠ b → (TX1 a).2.1 ≠ (TX1 b).2.1 := by decide +kernel
theorem tyX1_ok : ∀ k, k < 4 → parseFieldDescriptor (TX1 k).2.2.1 = some (tyX1 k) := by decide +kernel
abbrev cX1_init : ByteArray := prog_3_method_1_code
def yX1_init : MethodName := ⟨RX1, "<init>", "()V"⟩
abbrev cX1_copyFrom : ByteArray := prog_3_method_2_code
def yX1_copyFrom : MethodName := ⟨RX1, "copyFrom", "(LBlindSown$Crew;)V"⟩
abbrev cX1_copySowersFrom : ByteArray := prog_3_method_3_code
def yX1_copySowersFrom : MethodName := ⟨RX1, "copySowersFrom", "(LBlindSown$Crew;)V"⟩
abbrev cX1_addPost : ByteArray := prog_3_method_4_code
def yX1_addPost : MethodName := ⟨RX1, "addPost", "(I)V"⟩
abbrev cX1_hasPost : ByteArray := prog_3_method_5_code
def yX1_hasPost : MethodName := ⟨RX1, "hasPost", "(I)Z"⟩
abbrev cX1_postAt : ByteArray := prog_3_method_6_code
def yX1_postAt : MethodName := ⟨RX1, "postAt", "(I)I"⟩
abbrev cX1_grainsInBags : ByteArray := prog_3_method_7_code
def yX1_grainsInBags : MethodName := ⟨RX1, "grainsInBags", "()I"⟩
abbrev cX1_exchangeBags : ByteArray := prog_3_method_8_code
def yX1_exchangeBags : MethodName := ⟨RX1, "exchangeBags", "(II)V"⟩
abbrev cX1_listener : ByteArray := prog_3_method_9_code
def yX1_listener : MethodName := ⟨RX1, "listener", "(I)I"⟩
abbrev cX1_goThrough : ByteArray := prog_3_method_10_code
def yX1_goThrough : MethodName := ⟨RX1, "goThrough", "(LBlindSown$Pad;LBlindSown$Soil;)I"⟩
abbrev cX1_goPart : ByteArray := prog_3_method_11_code
def yX1_goPart : MethodName := ⟨RX1, "goPart", "(LBlindSown$Pad;ILBlindSown$Soil;)V"⟩
abbrev cX1_turnToBell : ByteArray := prog_3_method_12_code
def yX1_turnToBell : MethodName := ⟨RX1, "turnToBell", "(LBlindSown$Sower;)V"⟩
def RX2 : String := "BlindSown$Field"
def TX2 : u_T := fun k => match k with
  | 0 => ("BlindSown$Field", "grains", "[I", true)
  | _ => ("BlindSown$Field", "rows", "[I", true)
def tyX2 : Nat → FieldType := fun k => match k with
  | 0 => .array .int
  | _ => .array .int
abbrev wsX20 : List Cond := u_ws RX2 TX2 2
theorem nmX2 : ∀ a, a < 2 → ∀ b, b < 2 → a ≠ b → (TX2 a).2.1 ≠ (TX2 b).2.1 := by decide +kernel
theorem tyX2_ok : ∀ k, k < 2 → parseFieldDescriptor (TX2 k).2.2.1 = some (tyX2 k) := by decide +kernel
abbrev cX2_init : ByteArray := prog_4_method_1_code
def yX2_init : MethodName := ⟨RX2, "<init>", "()V"⟩
abbrev cX2_copyFrom : ByteArray := prog_4_method_2_code
def yX2_copyFrom : MethodName := ⟨RX2, "copyFrom", "(LBlindSown$Field;)V"⟩
abbrev cX2_take : ByteArray := prog_4_method_3_code
def yX2_take : MethodName := ⟨RX2, "take", "(II)V"⟩
abbrev cX2_grainsIn : ByteArray := prog_4_method_4_code
def yX2_grainsIn : MethodName := ⟨RX2, "grainsIn", "(II)I"⟩
abbrev cX2_allGrains : ByteArray := prog_4_method_5_code
def yX2_allGrains : MethodName := ⟨RX2, "allGrains", "()I"⟩
abbrev cX2_grainsBeyond : ByteArray := prog_4_method_6_code
def yX2_grainsBeyond : MethodName := ⟨RX2, "grainsBeyond", "(II)I"⟩
abbrev cX2_strays : ByteArray := prog_4_method_7_code
def yX2_strays : MethodName := ⟨RX2, "strays", "(I)I"⟩
abbrev cX2_bareCells : ByteArray := prog_4_method_8_code
def yX2_bareCells : MethodName := ⟨RX2, "bareCells", "(I)I"⟩
abbrev cX2_hasGrainsOf : ByteArray := prog_4_method_9_code
def yX2_hasGrainsOf : MethodName := ⟨RX2, "hasGrainsOf", "(LBlindSown$Field;)Z"⟩
abbrev cX2_nearestEmpty : ByteArray := prog_4_method_10_code
def yX2_nearestEmpty : MethodName := ⟨RX2, "nearestEmpty", "(I)I"⟩
def RX3 : String := "BlindSown$Land"
def TX3 : u_T := fun k => match k with
  | 0 => ("BlindSown$Land", "field", "LBlindSown$Field;", true)
  | 1 => ("BlindSown$Land", "crew", "LBlindSown$Crew;", true)
  | _ => ("BlindSown$Land", "fruits", "[I", true)
def tyX3 : Nat → FieldType := fun k => match k with
  | 0 => .object "BlindSown$Field"
  | 1 => .object "BlindSown$Crew"
  | _ => .array .int
abbrev wsX30 : List Cond := u_ws RX3 TX3 3
theorem nmX3 : ∀ a, a < 3 → ∀ b, b < 3 → a ≠ b → (TX3 a).2.1 ≠ (TX3 b).2.1 := by decide +kernel
theorem tyX3_ok : ∀ k, k < 3 → parseFieldDescriptor (TX3 k).2.2.1 = some (tyX3 k) := by decide +kernel
abbrev cX3_init : ByteArray := prog_5_method_1_code
def yX3_init : MethodName := ⟨RX3, "<init>", "()V"⟩
abbrev cX3_copyFrom : ByteArray := prog_5_method_2_code
def yX3_copyFrom : MethodName := ⟨RX3, "copyFrom", "(LBlindSown$Land;)V"⟩
abbrev cX3_harvest : ByteArray := prog_5_method_3_code
def yX3_harvest : MethodName := ⟨RX3, "harvest", "()I"⟩
abbrev cX3_partOfHarvest : ByteArray := prog_5_method_4_code
def yX3_partOfHarvest : MethodName := ⟨RX3, "partOfHarvest", "(I)I"⟩
abbrev cX3_allSteps : ByteArray := prog_5_method_5_code
def yX3_allSteps : MethodName := ⟨RX3, "allSteps", "()I"⟩
abbrev cX3_claim : ByteArray := prog_5_method_6_code
def yX3_claim : MethodName := ⟨RX3, "claim", "(II)I"⟩
def RX4 : String := "BlindSown$Pad"
def TX4 : u_T := fun k => match k with
  | 0 => ("BlindSown$Pad", "signs", "[I", true)
  | _ => ("BlindSown$Pad", "count", "I", false)
def tyX4 : Nat → FieldType := fun k => match k with
  | 0 => .array .int
  | _ => .int
abbrev wsX40 : List Cond := u_ws RX4 TX4 2
theorem nmX4 : ∀ a, a < 2 → ∀ b, b < 2 → a ≠ b → (TX4 a).2.1 ≠ (TX4 b).2.1 := by decide +kernel
theorem tyX4_ok : ∀ k, k < 2 → parseFieldDescriptor (TX4 k).2.2.1 = some (tyX4 k) := by decide +kernel
abbrev cX4_init : ByteArray := prog_6_method_1_code
def yX4_init : MethodName := ⟨RX4, "<init>", "()V"⟩
abbrev cX4_add : ByteArray := prog_6_method_2_code
def yX4_add : MethodName := ⟨RX4, "add", "(I)V"⟩
abbrev cX4_signAt : ByteArray := prog_6_method_3_code
def yX4_signAt : MethodName := ⟨RX4, "signAt", "(I)I"⟩
abbrev cX4_firstFault : ByteArray := prog_6_method_4_code
def yX4_firstFault : MethodName := ⟨RX4, "firstFault", "()I"⟩
abbrev cX4_startsPart : ByteArray := prog_6_method_5_code
def yX4_startsPart : MethodName := ⟨RX4, "startsPart", "(I)Z"⟩
abbrev cX4_has : ByteArray := prog_6_method_6_code
def yX4_has : MethodName := ⟨RX4, "has", "(I)Z"⟩
abbrev cX4_isLetter : ByteArray := prog_6_method_7_code
def yX4_isLetter : MethodName := ⟨RX4, "isLetter", "(I)Z"⟩
abbrev cX4_isDeed : ByteArray := prog_6_method_8_code
def yX4_isDeed : MethodName := ⟨RX4, "isDeed", "(I)Z"⟩
def RX5 : String := "BlindSown$Soil"
def TX5 : u_T := fun k => match k with
  | _ => ("", "", "", false)
def tyX5 : Nat → FieldType := fun k => match k with
  | _ => .int
abbrev wsX50 : List Cond := u_ws RX5 TX5 0
theorem nmX5 : ∀ a, a < 0 → ∀ b, b < 0 → a ≠ b → (TX5 a).2.1 ≠ (TX5 b).2.1 := by decide +kernel
theorem tyX5_ok : ∀ k, k < 0 → parseFieldDescriptor (TX5 k).2.2.1 = some (tyX5 k) := by decide +kernel
abbrev cX5_init : ByteArray := prog_7_method_1_code
def yX5_init : MethodName := ⟨RX5, "<init>", "()V"⟩
def RX6 : String := "BlindSown$Sower"
def TX6 : u_T := fun k => match k with
  | 0 => ("BlindSown$Sower", "place", "I", false)
  | 1 => ("BlindSown$Sower", "way", "I", false)
  | 2 => ("BlindSown$Sower", "kind", "I", false)
  | 3 => ("BlindSown$Sower", "grains", "I", false)
  | 4 => ("BlindSown$Sower", "wrong", "I", false)
  | 5 => ("BlindSown$Sower", "ear", "I", false)
  | 6 => ("BlindSown$Sower", "walked", "I", false)
  | _ => ("BlindSown$Sower", "out", "I", false)
def tyX6 : Nat → FieldType := fun k => match k with
  | 0 => .int
  | 1 => .int
  | 2 => .int
  | 3 => .int
  | 4 => .int
  | 5 => .int
  | 6 => .int
  | _ => .int
abbrev wsX60 : List Cond := u_ws RX6 TX6 8
theorem nmX6 : ∀ a, a < 8 → ∀ b, b < 8 → a ≠ b → (TX6 a).2.1 ≠ (TX6 b).2.1 := by decide +kernel
theorem tyX6_ok : ∀ k, k < 8 → parseFieldDescriptor (TX6 k).2.2.1 = some (tyX6 k) := by decide +kernel
abbrev cX6_init : ByteArray := prog_8_method_1_code
def yX6_init : MethodName := ⟨RX6, "<init>", "(I)V"⟩
abbrev cX6_copyFrom : ByteArray := prog_8_method_2_code
def yX6_copyFrom : MethodName := ⟨RX6, "copyFrom", "(LBlindSown$Sower;)V"⟩
abbrev cX6_fact : ByteArray := prog_8_method_3_code
def yX6_fact : MethodName := ⟨RX6, "fact", "(I)I"⟩
abbrev cX6_put : ByteArray := prog_8_method_4_code
def yX6_put : MethodName := ⟨RX6, "put", "(II)V"⟩
abbrev cX6_hears : ByteArray := prog_8_method_5_code
def yX6_hears : MethodName := ⟨RX6, "hears", "(I)Z"⟩
abbrev cX6_turn : ByteArray := prog_8_method_6_code
def yX6_turn : MethodName := ⟨RX6, "turn", "(I)V"⟩
abbrev cX6_turnTo : ByteArray := prog_8_method_7_code
def yX6_turnTo : MethodName := ⟨RX6, "turnTo", "(I)V"⟩
abbrev cX6_walk : ByteArray := prog_8_method_8_code
def yX6_walk : MethodName := ⟨RX6, "walk", "(ILBlindSown$Soil;)V"⟩
abbrev cX6_turnsToFace : ByteArray := prog_8_method_9_code
def yX6_turnsToFace : MethodName := ⟨RX6, "turnsToFace", "(I)I"⟩
def RX7 : String := "BlindSown$StrayTally"
def TX7 : u_T := fun k => match k with
  | 0 => ("BlindSown$StrayTally", "plan", "LBlindSown$Field;", false)
  | _ => ("BlindSown$StrayTally", "count", "I", false)
def tyX7 : Nat → FieldType := fun k => match k with
  | 0 => .object "BlindSown$Field"
  | _ => .int
abbrev wsX70 : List Cond := u_ws RX7 TX7 2
theorem nmX7 : ∀ a, a < 2 → ∀ b, b < 2 → a ≠ b → (TX7 a).2.1 ≠ (TX7 b).2.1 := by decide +kernel
theorem tyX7_ok : ∀ k, k < 2 → parseFieldDescriptor (TX7 k).2.2.1 = some (tyX7 k) := by decide +kernel
abbrev cX7_init : ByteArray := prog_9_method_1_code
def yX7_init : MethodName := ⟨RX7, "<init>", "()V"⟩
abbrev cX7_take : ByteArray := prog_9_method_2_code
def yX7_take : MethodName := ⟨RX7, "take", "(II)V"⟩
def RX8 : String := "BlindSown$Thief"
def TX8 : u_T := fun k => match k with
  | 0 => ("BlindSown$Thief", "minute", "I", false)
  | 1 => ("BlindSown$Thief", "catcher", "I", false)
  | _ => ("BlindSown$Thief", "loot", "I", false)
def tyX8 : Nat → FieldType := fun k => match k with
  | 0 => .int
  | 1 => .int
  | _ => .int
abbrev wsX80 : List Cond := u_ws RX8 TX8 3
theorem nmX8 : ∀ a, a < 3 → ∀ b, b < 3 → a ≠ b → (TX8 a).2.1 ≠ (TX8 b).2.1 := by decide +kernel
theorem tyX8_ok : ∀ k, k < 3 → parseFieldDescriptor (TX8 k).2.2.1 = some (tyX8 k) := by decide +kernel
abbrev cX8_init : ByteArray := prog_10_method_1_code
def yX8_init : MethodName := ⟨RX8, "<init>", "()V"⟩
abbrev cX8_go : ByteArray := prog_10_method_2_code
def yX8_go : MethodName := ⟨RX8, "go", "(LBlindSown$Land;II)V"⟩
def RX9 : String := "BlindSown$Trail"
def TX9 : u_T := fun k => match k with
  | 0 => ("BlindSown$Trail", "xs", "[I", true)
  | 1 => ("BlindSown$Trail", "ys", "[I", true)
  | _ => ("BlindSown$Trail", "length", "I", false)
def tyX9 : Nat → FieldType := fun k => match k with
  | 0 => .array .int
  | 1 => .array .int
  | _ => .int
abbrev wsX90 : List Cond := u_ws RX9 TX9 3
theorem nmX9 : ∀ a, a < 3 → ∀ b, b < 3 → a ≠ b → (TX9 a).2.1 ≠ (TX9 b).2.1 := by decide +kernel
theorem tyX9_ok : ∀ k, k < 3 → parseFieldDescriptor (TX9 k).2.2.1 = some (tyX9 k) := by decide +kernel
abbrev cX9_init : ByteArray := prog_11_method_1_code
def yX9_init : MethodName := ⟨RX9, "<init>", "()V"⟩
abbrev cX9_cellsOf : ByteArray := prog_11_method_2_code
def yX9_cellsOf : MethodName := ⟨RX9, "cellsOf", "(III)I"⟩
abbrev cX9_visit : ByteArray := prog_11_method_3_code
def yX9_visit : MethodName := ⟨RX9, "visit", "(II)V"⟩
def RX10 : String := "BlindSown"
def TX10 : u_T := fun k => match k with
  | 0 => ("BlindSown", "pad", "LBlindSown$Pad;", true)
  | 1 => ("BlindSown", "now", "LBlindSown$Land;", true)
  | 2 => ("BlindSown", "images", "[LBlindSown$Land;", true)
  | 3 => ("BlindSown", "kept", "[Z", true)
  | 4 => ("BlindSown", "trial", "LBlindSown$Land;", true)
  | 5 => ("BlindSown", "swapped", "LBlindSown$Land;", true)
  | 6 => ("BlindSown", "search", "LBlindSown$BellSearch;", true)
  | 7 => ("BlindSown", "robber", "LBlindSown$Thief;", true)
  | _ => ("BlindSown", "trail", "LBlindSown$Trail;", true)
def tyX10 : Nat → FieldType := fun k => match k with
  | 0 => .object "BlindSown$Pad"
  | 1 => .object "BlindSown$Land"
  | 2 => .array (.object "BlindSown$Land")
  | 3 => .array .boolean
  | 4 => .object "BlindSown$Land"
  | 5 => .object "BlindSown$Land"
  | 6 => .object "BlindSown$BellSearch"
  | 7 => .object "BlindSown$Thief"
  | _ => .object "BlindSown$Trail"
abbrev wsX100 : List Cond := u_ws RX10 TX10 9
theorem nmX10 : ∀ a, a < 9 → ∀ b, b < 9 → a ≠ b → (TX10 a).2.1 ≠ (TX10 b).2.1 := by decide +kernel
theorem tyX10_ok : ∀ k, k < 9 → parseFieldDescriptor (TX10 k).2.2.1 = some (tyX10 k) := by decide +kernel
abbrev cX10_init : ByteArray := prog_1_method_1_code
def yX10_init : MethodName := ⟨RX10, "<init>", "()V"⟩
abbrev cX10_set : ByteArray := prog_1_method_2_code
def yX10_set : MethodName := ⟨RX10, "set", "(III)I"⟩
abbrev cX10_post : ByteArray := prog_1_method_3_code
def yX10_post : MethodName := ⟨RX10, "post", "(I)I"⟩
abbrev cX10_clear : ByteArray := prog_1_method_4_code
def yX10_clear : MethodName := ⟨RX10, "clear", "()I"⟩
abbrev cX10_say : ByteArray := prog_1_method_5_code
def yX10_say : MethodName := ⟨RX10, "say", "(I)I"⟩
abbrev cX10_wipe : ByteArray := prog_1_method_6_code
def yX10_wipe : MethodName := ⟨RX10, "wipe", "()I"⟩
abbrev cX10_fault : ByteArray := prog_1_method_7_code
def yX10_fault : MethodName := ⟨RX10, "fault", "()I"⟩
abbrev cX10_night : ByteArray := prog_1_method_8_code
def yX10_night : MethodName := ⟨RX10, "night", "()I"⟩
abbrev cX10_about : ByteArray := prog_1_method_9_code
def yX10_about : MethodName := ⟨RX10, "about", "(II)I"⟩
abbrev cX10_up : ByteArray := prog_1_method_10_code
def yX10_up : MethodName := ⟨RX10, "up", "(II)I"⟩
abbrev cX10_row : ByteArray := prog_1_method_11_code
def yX10_row : MethodName := ⟨RX10, "row", "(II)I"⟩
abbrev cX10_strayed : ByteArray := prog_1_method_12_code
def yX10_strayed : MethodName := ⟨RX10, "strayed", "(II)I"⟩
abbrev cX10_guessed : ByteArray := prog_1_method_13_code
def yX10_guessed : MethodName := ⟨RX10, "guessed", "(II)I"⟩
abbrev cX10_spiral : ByteArray := prog_1_method_14_code
def yX10_spiral : MethodName := ⟨RX10, "spiral", "(III)I"⟩
abbrev cX10_bells : ByteArray := prog_1_method_15_code
def yX10_bells : MethodName := ⟨RX10, "bells", "(II)I"⟩
abbrev cX10_thief : ByteArray := prog_1_method_16_code
def yX10_thief : MethodName := ⟨RX10, "thief", "(III)I"⟩
abbrev cX10_safest : ByteArray := prog_1_method_17_code
def yX10_safest : MethodName := ⟨RX10, "safest", "(I)I"⟩
abbrev cX10_swap : ByteArray := prog_1_method_18_code
def yX10_swap : MethodName := ⟨RX10, "swap", "(II)I"⟩
abbrev cX10_found : ByteArray := prog_1_method_19_code
def yX10_found : MethodName := ⟨RX10, "found", "(II)I"⟩
abbrev cX10_over : ByteArray := prog_1_method_20_code
def yX10_over : MethodName := ⟨RX10, "over", "(II)I"⟩
abbrev cX10_fruit : ByteArray := prog_1_method_21_code
def yX10_fruit : MethodName := ⟨RX10, "fruit", "(II)I"⟩
abbrev cX10_share : ByteArray := prog_1_method_22_code
def yX10_share : MethodName := ⟨RX10, "share", "(I)I"⟩
abbrev cX10_facing : ByteArray := prog_1_method_23_code
def yX10_facing : MethodName := ⟨RX10, "facing", "(II)I"⟩
abbrev cX10_rest : ByteArray := prog_1_method_24_code
def yX10_rest : MethodName := ⟨RX10, "rest", "(I)I"⟩
abbrev cX10_image : ByteArray := prog_1_method_25_code
def yX10_image : MethodName := ⟨RX10, "image", "(I)I"⟩
abbrev cX10_restore : ByteArray := prog_1_method_26_code
def yX10_restore : MethodName := ⟨RX10, "restore", "(I)I"⟩
abbrev cX10_told : ByteArray := prog_1_method_27_code
def yX10_told : MethodName := ⟨RX10, "told", "(I)I"⟩
abbrev cX10_within : ByteArray := prog_1_method_28_code
def yX10_within : MethodName := ⟨RX10, "within", "(III)Z"⟩
abbrev cX10_isSower : ByteArray := prog_1_method_29_code
def yX10_isSower : MethodName := ⟨RX10, "isSower", "(I)Z"⟩
abbrev cX10_areTwoSowers : ByteArray := prog_1_method_30_code
def yX10_areTwoSowers : MethodName := ⟨RX10, "areTwoSowers", "(II)Z"⟩
abbrev cX10_isKind : ByteArray := prog_1_method_31_code
def yX10_isKind : MethodName := ⟨RX10, "isKind", "(I)Z"⟩
abbrev cX10_isKindOrAll : ByteArray := prog_1_method_32_code
def yX10_isKindOrAll : MethodName := ⟨RX10, "isKindOrAll", "(I)Z"⟩
abbrev cX10_isCell : ByteArray := prog_1_method_33_code
def yX10_isCell : MethodName := ⟨RX10, "isCell", "(I)Z"⟩
abbrev cX10_isWay : ByteArray := prog_1_method_34_code
def yX10_isWay : MethodName := ⟨RX10, "isWay", "(I)Z"⟩
abbrev cX10_isImage : ByteArray := prog_1_method_35_code
def yX10_isImage : MethodName := ⟨RX10, "isImage", "(I)Z"⟩
abbrev cX10_stepFrom : ByteArray := prog_1_method_36_code
def yX10_stepFrom : MethodName := ⟨RX10, "stepFrom", "(II)I"⟩
abbrev cX10_cellsApart : ByteArray := prog_1_method_37_code
def yX10_cellsApart : MethodName := ⟨RX10, "cellsApart", "(II)I"⟩
abbrev cX10_onEdge : ByteArray := prog_1_method_38_code
def yX10_onEdge : MethodName := ⟨RX10, "onEdge", "(I)Z"⟩
abbrev cX10_bestWay : ByteArray := prog_1_method_39_code
def yX10_bestWay : MethodName := ⟨RX10, "bestWay", "(II)I"⟩
abbrev cX10_turnsAllRound : ByteArray := prog_1_method_40_code
def yX10_turnsAllRound : MethodName := ⟨RX10, "turnsAllRound", "(I)I"⟩
def RX11 : String := "BlindSownModel"
def TX11 : u_T := fun k => match k with
  | 0 => ("BlindSownModel", "sower", "[I", true)
  | 1 => ("BlindSownModel", "grains", "[I", true)
  | 2 => ("BlindSownModel", "posts", "[I", true)
  | 3 => ("BlindSownModel", "postMany", "I", false)
  | 4 => ("BlindSownModel", "rows", "[I", true)
  | 5 => ("BlindSownModel", "fruits", "[I", true)
  | 6 => ("BlindSownModel", "signs", "[I", true)
  | 7 => ("BlindSownModel", "signMany", "I", false)
  | 8 => ("BlindSownModel", "nowSower", "[I", true)
  | 9 => ("BlindSownModel", "nowGrains", "[I", true)
  | 10 => ("BlindSownModel", "nowPosts", "[I", true)
  | 11 => ("BlindSownModel", "nowPostMany", "I", false)
  | 12 => ("BlindSownModel", "been", "[I", true)
  | 13 => ("BlindSownModel", "beenMany", "I", false)
  | 14 => ("BlindSownModel", "bestStrayed", "I", false)
  | 15 => ("BlindSownModel", "bestFirst", "I", false)
  | 16 => ("BlindSownModel", "bestSecond", "I", false)
  | 17 => ("BlindSownModel", "caughtAt", "I", false)
  | 18 => ("BlindSownModel", "caughtBy", "I", false)
  | 19 => ("BlindSownModel", "loot", "I", false)
  | 20 => ("BlindSownModel", "without", "[I", true)
  | 21 => ("BlindSownModel", "kept", "[I", true)
  | 22 => ("BlindSownModel", "isKept", "[Z", true)
  | 23 => ("BlindSownModel", "keptAt", "I", false)
  | _ => ("BlindSownModel", "isWriting", "Z", false)
def tyX11 : Nat → FieldType := fun k => match k with
  | 0 => .array .int
  | 1 => .array .int
  | 2 => .array .int
  | 3 => .int
  | 4 => .array .int
  | 5 => .array .int
  | 6 => .array .int
  | 7 => .int
  | 8 => .array .int
  | 9 => .array .int
  | 10 => .array .int
  | 11 => .int
  | 12 => .array .int
  | 13 => .int
  | 14 => .int
  | 15 => .int
  | 16 => .int
  | 17 => .int
  | 18 => .int
  | 19 => .int
  | 20 => .array .int
  | 21 => .array .int
  | 22 => .array .boolean
  | 23 => .int
  | _ => .boolean
abbrev wsX110 : List Cond := u_ws RX11 TX11 25
theorem nmX11 : ∀ a, a < 25 → ∀ b, b < 25 → a ≠ b → (TX11 a).2.1 ≠ (TX11 b).2.1 := by decide +kernel
theorem tyX11_ok : ∀ k, k < 25 → parseFieldDescriptor (TX11 k).2.2.1 = some (tyX11 k) := by decide +kernel
abbrev cX11_init : ByteArray := prog_13_method_1_code
def yX11_init : MethodName := ⟨RX11, "<init>", "()V"⟩
abbrev cX11_in : ByteArray := prog_13_method_3_code
def yX11_in : MethodName := ⟨RX11, "in", "(JJJ)Z"⟩
abbrev cX11_size : ByteArray := prog_13_method_4_code
def yX11_size : MethodName := ⟨RX11, "size", "(I)I"⟩
abbrev cX11_isSower : ByteArray := prog_13_method_5_code
def yX11_isSower : MethodName := ⟨RX11, "isSower", "(I)Z"⟩
abbrev cX11_isCell : ByteArray := prog_13_method_6_code
def yX11_isCell : MethodName := ⟨RX11, "isCell", "(I)Z"⟩
abbrev cX11_isKind : ByteArray := prog_13_method_7_code
def yX11_isKind : MethodName := ⟨RX11, "isKind", "(I)Z"⟩
abbrev cX11_stepX : ByteArray := prog_13_method_8_code
def yX11_stepX : MethodName := ⟨RX11, "stepX", "(I)I"⟩
abbrev cX11_stepY : ByteArray := prog_13_method_9_code
def yX11_stepY : MethodName := ⟨RX11, "stepY", "(I)I"⟩
abbrev cX11_far : ByteArray := prog_13_method_10_code
def yX11_far : MethodName := ⟨RX11, "far", "(II)I"⟩
abbrev cX11_beside : ByteArray := prog_13_method_11_code
def yX11_beside : MethodName := ⟨RX11, "beside", "(II)I"⟩
abbrev cX11_of : ByteArray := prog_13_method_12_code
def yX11_of : MethodName := ⟨RX11, "of", "(II)I"⟩
abbrev cX11_set : ByteArray := prog_13_method_13_code
def yX11_set : MethodName := ⟨RX11, "set", "(III)I"⟩
abbrev cX11_post : ByteArray := prog_13_method_14_code
def yX11_post : MethodName := ⟨RX11, "post", "(I)I"⟩
abbrev cX11_clear : ByteArray := prog_13_method_15_code
def yX11_clear : MethodName := ⟨RX11, "clear", "()I"⟩
abbrev cX11_say : ByteArray := prog_13_method_16_code
def yX11_say : MethodName := ⟨RX11, "say", "(I)I"⟩
abbrev cX11_wipe : ByteArray := prog_13_method_17_code
def yX11_wipe : MethodName := ⟨RX11, "wipe", "()I"⟩
abbrev cX11_isLetter : ByteArray := prog_13_method_18_code
def yX11_isLetter : MethodName := ⟨RX11, "isLetter", "(I)Z"⟩
abbrev cX11_isTurn : ByteArray := prog_13_method_19_code
def yX11_isTurn : MethodName := ⟨RX11, "isTurn", "(I)Z"⟩
abbrev cX11_isGoing : ByteArray := prog_13_method_20_code
def yX11_isGoing : MethodName := ⟨RX11, "isGoing", "(I)Z"⟩
abbrev cX11_fault : ByteArray := prog_13_method_21_code
def yX11_fault : MethodName := ⟨RX11, "fault", "()I"⟩
abbrev cX11_partsOf : ByteArray := prog_13_method_22_code
def yX11_partsOf : MethodName := ⟨RX11, "partsOf", "()I"⟩
abbrev cX11_lay : ByteArray := prog_13_method_23_code
def yX11_lay : MethodName := ⟨RX11, "lay", "()V"⟩
abbrev cX11_turn : ByteArray := prog_13_method_24_code
def yX11_turn : MethodName := ⟨RX11, "turn", "(II)V"⟩
abbrev cX11_nearest : ByteArray := prog_13_method_25_code
def yX11_nearest : MethodName := ⟨RX11, "nearest", "(I)I"⟩
abbrev cX11_turnToPost : ByteArray := prog_13_method_26_code
def yX11_turnToPost : MethodName := ⟨RX11, "turnToPost", "(I)V"⟩
abbrev cX11_go : ByteArray := prog_13_method_27_code
def yX11_go : MethodName := ⟨RX11, "go", "(IIZ)V"⟩
abbrev cX11_goNight : ByteArray := prog_13_method_28_code
def yX11_goNight : MethodName := ⟨RX11, "goNight", "(I)V"⟩
abbrev cX11_night : ByteArray := prog_13_method_29_code
def yX11_night : MethodName := ⟨RX11, "night", "()I"⟩
abbrev cX11_about : ByteArray := prog_13_method_30_code
def yX11_about : MethodName := ⟨RX11, "about", "(II)I"⟩
abbrev cX11_grainsIn : ByteArray := prog_13_method_31_code
def yX11_grainsIn : MethodName := ⟨RX11, "grainsIn", "(I)I"⟩
abbrev cX11_up : ByteArray := prog_13_method_32_code
def yX11_up : MethodName := ⟨RX11, "up", "(II)I"⟩
abbrev cX11_row : ByteArray := prog_13_method_33_code
def yX11_row : MethodName := ⟨RX11, "row", "(II)I"⟩
abbrev cX11_strayed : ByteArray := prog_13_method_34_code
def yX11_strayed : MethodName := ⟨RX11, "strayed", "(II)I"⟩
abbrev cX11_isAsNow : ByteArray := prog_13_method_35_code
def yX11_isAsNow : MethodName := ⟨RX11, "isAsNow", "()Z"⟩
abbrev cX11_guessed : ByteArray := prog_13_method_36_code
def yX11_guessed : MethodName := ⟨RX11, "guessed", "(II)I"⟩
abbrev cX11_be : ByteArray := prog_13_method_37_code
def yX11_be : MethodName := ⟨RX11, "be", "(II)V"⟩
abbrev cX11_spiral : ByteArray := prog_13_method_38_code
def yX11_spiral : MethodName := ⟨RX11, "spiral", "(III)I"⟩
abbrev cX11_strayedNow : ByteArray := prog_13_method_39_code
def yX11_strayedNow : MethodName := ⟨RX11, "strayedNow", "()I"⟩
abbrev cX11_tryBells : ByteArray := prog_13_method_40_code
def yX11_tryBells : MethodName := ⟨RX11, "tryBells", "(III)V"⟩
abbrev cX11_bells : ByteArray := prog_13_method_41_code
def yX11_bells : MethodName := ⟨RX11, "bells", "(II)I"⟩
abbrev cX11_heardBy : ByteArray := prog_13_method_42_code
def yX11_heardBy : MethodName := ⟨RX11, "heardBy", "(I)I"⟩
abbrev cX11_steal : ByteArray := prog_13_method_43_code
def yX11_steal : MethodName := ⟨RX11, "steal", "(II)V"⟩
abbrev cX11_thief : ByteArray := prog_13_method_44_code
def yX11_thief : MethodName := ⟨RX11, "thief", "(III)I"⟩
abbrev cX11_isEdge : ByteArray := prog_13_method_45_code
def yX11_isEdge : MethodName := ⟨RX11, "isEdge", "(I)Z"⟩
abbrev cX11_safest : ByteArray := prog_13_method_46_code
def yX11_safest : MethodName := ⟨RX11, "safest", "(I)I"⟩
abbrev cX11_areTwo : ByteArray := prog_13_method_47_code
def yX11_areTwo : MethodName := ⟨RX11, "areTwo", "(II)Z"⟩
abbrev cX11_swapBags : ByteArray := prog_13_method_48_code
def yX11_swapBags : MethodName := ⟨RX11, "swapBags", "([III)V"⟩
abbrev cX11_swap : ByteArray := prog_13_method_49_code
def yX11_swap : MethodName := ⟨RX11, "swap", "(II)I"⟩
abbrev cX11_found : ByteArray := prog_13_method_50_code
def yX11_found : MethodName := ⟨RX11, "found", "(II)I"⟩
abbrev cX11_overOf : ByteArray := prog_13_method_51_code
def yX11_overOf : MethodName := ⟨RX11, "overOf", "(IIZ)I"⟩
abbrev cX11_over : ByteArray := prog_13_method_52_code
def yX11_over : MethodName := ⟨RX11, "over", "(II)I"⟩
abbrev cX11_fruit : ByteArray := prog_13_method_53_code
def yX11_fruit : MethodName := ⟨RX11, "fruit", "(II)I"⟩
abbrev cX11_harvest : ByteArray := prog_13_method_54_code
def yX11_harvest : MethodName := ⟨RX11, "harvest", "()I"⟩
abbrev cX11_walkedAll : ByteArray := prog_13_method_55_code
def yX11_walkedAll : MethodName := ⟨RX11, "walkedAll", "()I"⟩
abbrev cX11_partOf : ByteArray := prog_13_method_56_code
def yX11_partOf : MethodName := ⟨RX11, "partOf", "(I)I"⟩
abbrev cX11_restOf : ByteArray := prog_13_method_57_code
def yX11_restOf : MethodName := ⟨RX11, "restOf", "(II)J"⟩
abbrev cX11_share : ByteArray := prog_13_method_58_code
def yX11_share : MethodName := ⟨RX11, "share", "(I)I"⟩
abbrev cX11_facing : ByteArray := prog_13_method_59_code
def yX11_facing : MethodName := ⟨RX11, "facing", "(II)I"⟩
abbrev cX11_rest : ByteArray := prog_13_method_60_code
def yX11_rest : MethodName := ⟨RX11, "rest", "(I)I"⟩
abbrev cX11_pass : ByteArray := prog_13_method_61_code
def yX11_pass : MethodName := ⟨RX11, "pass", "(I)I"⟩
abbrev cX11_passAll : ByteArray := prog_13_method_62_code
def yX11_passAll : MethodName := ⟨RX11, "passAll", "()V"⟩
abbrev cX11_layImage : ByteArray := prog_13_method_63_code
def yX11_layImage : MethodName := ⟨RX11, "layImage", "(I)V"⟩
abbrev cX11_image : ByteArray := prog_13_method_64_code
def yX11_image : MethodName := ⟨RX11, "image", "(I)I"⟩
abbrev cX11_restore : ByteArray := prog_13_method_65_code
def yX11_restore : MethodName := ⟨RX11, "restore", "(I)I"⟩
abbrev cX11_bags : ByteArray := prog_13_method_66_code
def yX11_bags : MethodName := ⟨RX11, "bags", "()I"⟩
abbrev cX11_told : ByteArray := prog_13_method_67_code
def yX11_told : MethodName := ⟨RX11, "told", "(I)I"⟩
def RJ9 : String := "java/lang/Math"
def TJ9 : u_T := fun k => match k with
  | _ => ("", "", "", false)
def tyJ9 : Nat → FieldType := fun k => match k with
  | _ => .int
abbrev wsJ90 : List Cond := u_ws RJ9 TJ9 0
theorem nmJ9 : ∀ a, a < 0 → ∀ b, b < 0 → a ≠ b → (TJ9 a).2.1 ≠ (TJ9 b).2.1 := by decide +kernel
theorem tyJ9_ok : ∀ k, k < 0 → parseFieldDescriptor (TJ9 k).2.2.1 = some (tyJ9 k) := by decide +kernel
abbrev cJ9_floorMod_7cf53 : ByteArray := prog_14_method_50_code
def yJ9_floorMod_7cf53 : MethodName := ⟨RJ9, "floorMod", "(II)I"⟩
abbrev cJ9_abs_0f7a4 : ByteArray := prog_14_method_59_code
def yJ9_abs_0f7a4 : MethodName := ⟨RJ9, "abs", "(I)I"⟩
abbrev cJ9_max_7cf53 : ByteArray := prog_14_method_65_code
def yJ9_max_7cf53 : MethodName := ⟨RJ9, "max", "(II)I"⟩
abbrev cJ9_min_7cf53 : ByteArray := prog_14_method_69_code
def yJ9_min_7cf53 : MethodName := ⟨RJ9, "min", "(II)I"⟩
def RJ10 : String := "java/lang/System"
def TJ10 : u_T := fun k => match k with
  | _ => ("", "", "", false)
def tyJ10 : Nat → FieldType := fun k => match k with
  | _ => .int
abbrev wsJ100 : List Cond := u_ws RJ10 TJ10 0
theorem nmJ10 : ∀ a, a < 0 → ∀ b, b < 0 → a ≠ b → (TJ10 a).2.1 ≠ (TJ10 b).2.1 := by decide +kernel
theorem tyJ10_ok : ∀ k, k < 0 → parseFieldDescriptor (TJ10 k).2.2.1 = some (tyJ10 k) := by decide +kernel
def RL : String := "BlindSownLaw"
abbrev cL_law : ByteArray := code
def yL_law : MethodName := ⟨RL, "law", "([I)Z"⟩
def wsL_law_r1 : List Cond := [Cond.classLink RL 7 RX10, Cond.instantiable RX10 9, Cond.initialized RX10, Cond.classLink RL 10 RX11, Cond.instantiable RX11 25, Cond.initialized RX11, Cond.methodLink RL 9 yX10_init, Cond.instanceMethod yX10_init, Cond.code yX10_init cX10_init 2 none, Cond.methodLink RX10 1 objectInit, Cond.instanceMethod objectInit, Cond.code objectInit ⟨#[0xb1]⟩ 1 none, Cond.classLink RX10 7 RX4, Cond.instantiable RX4 2, Cond.initialized RX4, Cond.fieldLink RX10 10 "BlindSown" "pad" "LBlindSown$Pad;", Cond.classLink RX10 16 RX3, Cond.instantiable RX3 3, Cond.initialized RX3, Cond.fieldLink RX10 19 "BlindSown" "now" "LBlindSown$Land;", Cond.fieldLink RX10 23 "BlindSown" "images" "[LBlindSown$Land;", Cond.arrayClass .boolean, Cond.fieldLink RX10 27 "BlindSown" "kept" "[Z", Cond.fieldLink RX10 31 "BlindSown" "trial" "LBlindSown$Land;"]
def wsL_law_r2 : List Cond := [Cond.fieldLink RX10 34 "BlindSown" "swapped" "LBlindSown$Land;", Cond.classLink RX10 37 RX0, Cond.instantiable RX0 5, Cond.initialized RX0, Cond.fieldLink RX10 40 "BlindSown" "search" "LBlindSown$BellSearch;", Cond.classLink RX10 44 RX8, Cond.instantiable RX8 3, Cond.initialized RX8, Cond.fieldLink RX10 47 "BlindSown" "robber" "LBlindSown$Thief;", Cond.classLink RX10 51 RX9, Cond.instantiable RX9 3, Cond.initialized RX9, Cond.fieldLink RX10 54 "BlindSown" "trail" "LBlindSown$Trail;", Cond.instanceMethod yX4_init, Cond.code yX4_init cX4_init 1 none, Cond.methodLink RX4 3 objectInit, Cond.arrayClass .int, Cond.fieldLink RX4 9 "BlindSown$Pad" "signs" "[I", Cond.methodLink RX10 18 yX3_init, Cond.instanceMethod yX3_init, Cond.code yX3_init cX3_init 2 none, Cond.methodLink RX3 3 objectInit, Cond.classLink RX3 9 RX2, Cond.instantiable RX2 2]
def wsL_law_r3 : List Cond := [Cond.initialized RX2, Cond.fieldLink RX3 12 "BlindSown$Land" "field" "LBlindSown$Field;", Cond.classLink RX3 18 RX1, Cond.instantiable RX1 4, Cond.initialized RX1, Cond.fieldLink RX3 21 "BlindSown$Land" "crew" "LBlindSown$Crew;", Cond.fieldLink RX3 25 "BlindSown$Land" "fruits" "[I", Cond.methodLink RX3 11 yX2_init, Cond.instanceMethod yX2_init, Cond.code yX2_init cX2_init 2 none, Cond.fieldLink RX2 9 "BlindSown$Field" "grains" "[I", Cond.fieldLink RX2 15 "BlindSown$Field" "rows" "[I", Cond.instanceMethod yX5_init, Cond.initialized RX5, Cond.code yX5_init cX5_init 1 none, Cond.methodLink RX5 1 objectInit, Cond.methodLink RX3 20 yX1_init, Cond.instanceMethod yX1_init, Cond.code yX1_init cX1_init 2 none, Cond.methodLink RX1 3 objectInit, Cond.classLink RX1 9 RX6, Cond.fieldLink RX1 11 "BlindSown$Crew" "sowers" "[LBlindSown$Sower;", Cond.fieldLink RX1 17 "BlindSown$Crew" "posts" "[I", Cond.fieldLink RX1 21 "BlindSown$Crew" "going" "I"]
def wsL_law_r4 : List Cond := [Cond.instantiable RX6 8, Cond.initialized RX6, Cond.methodLink RX1 25 yX6_init, Cond.instanceMethod yX6_init, Cond.code yX6_init cX6_init 2 none, Cond.methodLink RX6 3 objectInit, Cond.fieldLink RX6 9 "BlindSown$Sower" "kind" "I", Cond.fieldLink RX6 15 "BlindSown$Sower" "grains" "I", Cond.fieldLink RX6 18 "BlindSown$Sower" "ear" "I", Cond.instanceMethod yX0_init, Cond.code yX0_init cX0_init 1 none, Cond.methodLink RX0 3 objectInit, Cond.classLink RX0 9 RX1, Cond.fieldLink RX0 12 "BlindSown$BellSearch" "crew" "LBlindSown$Crew;", Cond.classLink RX0 18 RX7, Cond.instantiable RX7 2, Cond.initialized RX7, Cond.fieldLink RX0 21 "BlindSown$BellSearch" "tally" "LBlindSown$StrayTally;", Cond.methodLink RX0 11 yX1_init, Cond.instanceMethod yX7_init, Cond.code yX7_init cX7_init 1 none, Cond.instanceMethod yX8_init, Cond.code yX8_init cX8_init 1 none, Cond.methodLink RX8 3 objectInit]
def wsL_law_r5 : List Cond := [Cond.instanceMethod yX9_init, Cond.code yX9_init cX9_init 1 none, Cond.methodLink RX9 3 objectInit, Cond.fieldLink RX9 9 "BlindSown$Trail" "xs" "[I", Cond.fieldLink RX9 15 "BlindSown$Trail" "ys" "[I", Cond.methodLink RL 12 yX11_init, Cond.instanceMethod yX11_init, Cond.code yX11_init cX11_init 2 none, Cond.methodLink RX11 1 objectInit, Cond.fieldLink RX11 7 "BlindSownModel" "sower" "[I", Cond.fieldLink RX11 13 "BlindSownModel" "grains" "[I", Cond.fieldLink RX11 16 "BlindSownModel" "posts" "[I", Cond.fieldLink RX11 19 "BlindSownModel" "rows" "[I", Cond.fieldLink RX11 22 "BlindSownModel" "fruits" "[I", Cond.fieldLink RX11 25 "BlindSownModel" "signs" "[I", Cond.fieldLink RX11 28 "BlindSownModel" "nowSower" "[I", Cond.fieldLink RX11 31 "BlindSownModel" "nowGrains" "[I", Cond.fieldLink RX11 34 "BlindSownModel" "nowPosts" "[I", Cond.fieldLink RX11 37 "BlindSownModel" "been" "[I", Cond.fieldLink RX11 40 "BlindSownModel" "without" "[I", Cond.fieldLink RX11 43 "BlindSownModel" "kept" "[I", Cond.fieldLink RX11 46 "BlindSownModel" "isKept" "[Z", Cond.methodLink RL 13 yX10_set, Cond.instanceMethod yX10_set]
def wsL_law_r6 : List Cond := [Cond.selects RX10 yX10_set yX10_set, Cond.code yX10_set cX10_set 6 (some .int), Cond.fieldLink RX10 69 "BlindSown" "MOST_OF" "[I", Cond.fieldLink RX10 73 "BlindSown$Land" "crew" "LBlindSown$Crew;", Cond.fieldLink RX10 77 "BlindSown$Crew" "sowers" "[LBlindSown$Sower;", Cond.methodLink RX10 58 yX10_isSower, Cond.static yX10_isSower, Cond.code yX10_isSower cX10_isSower 1 (some .boolean), Cond.methodLink RX10 65 yX10_within, Cond.static yX10_within, Cond.code yX10_within cX10_within 3 (some .boolean), Cond.methodLink RX10 62 yX10_isKind, Cond.static yX10_isKind, Cond.code yX10_isKind cX10_isKind 1 (some .boolean), Cond.methodLink RX10 83 yX6_fact, Cond.instanceMethod yX6_fact, Cond.selects RX6 yX6_fact yX6_fact, Cond.code yX6_fact cX6_fact 2 (some .int), Cond.fieldLink RX6 21 "BlindSown$Sower" "place" "I", Cond.fieldLink RX6 24 "BlindSown$Sower" "way" "I", Cond.fieldLink RX6 27 "BlindSown$Sower" "wrong" "I", Cond.fieldLink RX6 30 "BlindSown$Sower" "walked" "I", Cond.fieldLink RX6 33 "BlindSown$Sower" "out" "I", Cond.methodLink RX10 89 yX6_put]
def wsL_law_r7 : List Cond := [Cond.instanceMethod yX6_put, Cond.selects RX6 yX6_put yX6_put, Cond.code yX6_put cX6_put 3 none, Cond.methodLink RL 17 yX11_set, Cond.instanceMethod yX11_set, Cond.selects RX11 yX11_set yX11_set, Cond.code yX11_set cX11_set 6 (some .int), Cond.constantLong RX11 58 (5), Cond.methodLink RX11 72 yX11_isSower, Cond.static yX11_isSower, Cond.code yX11_isSower cX11_isSower 1 (some .boolean), Cond.constantLong RX11 50 (3), Cond.methodLink RX11 52 yX11_in, Cond.static yX11_in, Cond.code yX11_in cX11_in 6 (some .boolean), Cond.methodLink RX11 76 yX11_of, Cond.instanceMethod yX11_of, Cond.selects RX11 yX11_of yX11_of, Cond.code yX11_of cX11_of 3 (some .int), Cond.methodLink RL 18 yX10_post, Cond.instanceMethod yX10_post, Cond.selects RX10 yX10_post yX10_post, Cond.code yX10_post cX10_post 2 (some .int), Cond.fieldLink RX10 99 "BlindSown$Crew" "postCount" "I"]
def wsL_law_r8 : List Cond := [Cond.methodLink RX10 93 yX10_isCell, Cond.static yX10_isCell, Cond.code yX10_isCell cX10_isCell 1 (some .boolean), Cond.methodLink RX10 96 yX1_hasPost, Cond.instanceMethod yX1_hasPost, Cond.selects RX1 yX1_hasPost yX1_hasPost, Cond.code yX1_hasPost cX1_hasPost 3 (some .boolean), Cond.fieldLink RX1 38 "BlindSown$Crew" "postCount" "I", Cond.methodLink RX10 103 yX1_addPost, Cond.instanceMethod yX1_addPost, Cond.selects RX1 yX1_addPost yX1_addPost, Cond.code yX1_addPost cX1_addPost 2 none, Cond.methodLink RL 22 yX11_post, Cond.instanceMethod yX11_post, Cond.selects RX11 yX11_post yX11_post, Cond.code yX11_post cX11_post 3 (some .int), Cond.fieldLink RX11 83 "BlindSownModel" "postMany" "I", Cond.methodLink RX11 80 yX11_isCell, Cond.static yX11_isCell, Cond.code yX11_isCell cX11_isCell 1 (some .boolean), Cond.constantLong RX11 56 (63), Cond.methodLink RL 23 yX10_clear, Cond.instanceMethod yX10_clear, Cond.selects RX10 yX10_clear yX10_clear]
def wsL_law_r9 : List Cond := [Cond.code yX10_clear cX10_clear 2 (some .int), Cond.methodLink RL 27 yX11_clear, Cond.instanceMethod yX11_clear, Cond.selects RX11 yX11_clear yX11_clear, Cond.code yX11_clear cX11_clear 2 (some .int), Cond.methodLink RL 28 yX10_say, Cond.instanceMethod yX10_say, Cond.selects RX10 yX10_say yX10_say, Cond.code yX10_say cX10_say 2 (some .int), Cond.fieldLink RX10 107 "BlindSown$Pad" "count" "I", Cond.methodLink RX10 110 yX4_add, Cond.instanceMethod yX4_add, Cond.selects RX4 yX4_add yX4_add, Cond.code yX4_add cX4_add 2 none, Cond.fieldLink RX4 15 "BlindSown$Pad" "count" "I", Cond.methodLink RL 31 yX11_say, Cond.instanceMethod yX11_say, Cond.selects RX11 yX11_say yX11_say, Cond.code yX11_say cX11_say 2 (some .int), Cond.constantLong RX11 87 (33), Cond.constantLong RX11 89 (126), Cond.fieldLink RX11 91 "BlindSownModel" "signMany" "I", Cond.methodLink RL 32 yX10_wipe, Cond.instanceMethod yX10_wipe]
def wsL_law_r10 : List Cond := [Cond.selects RX10 yX10_wipe yX10_wipe, Cond.code yX10_wipe cX10_wipe 2 (some .int), Cond.methodLink RL 35 yX11_wipe, Cond.instanceMethod yX11_wipe, Cond.selects RX11 yX11_wipe yX11_wipe, Cond.code yX11_wipe cX11_wipe 2 (some .int), Cond.methodLink RL 36 yX10_fault, Cond.instanceMethod yX10_fault, Cond.selects RX10 yX10_fault yX10_fault, Cond.code yX10_fault cX10_fault 1 (some .int), Cond.methodLink RX10 113 yX4_firstFault, Cond.instanceMethod yX4_firstFault, Cond.selects RX4 yX4_firstFault yX4_firstFault, Cond.code yX4_firstFault cX4_firstFault 5 (some .int), Cond.methodLink RX4 19 yX4_signAt, Cond.instanceMethod yX4_signAt, Cond.selects RX4 yX4_signAt yX4_signAt, Cond.code yX4_signAt cX4_signAt 2 (some .int), Cond.methodLink RX4 27 yX4_isLetter, Cond.static yX4_isLetter, Cond.code yX4_isLetter cX4_isLetter 1 (some .boolean), Cond.methodLink RX4 31 yX4_isDeed, Cond.static yX4_isDeed, Cond.code yX4_isDeed cX4_isDeed 1 (some .boolean)]
def wsL_law_r11 : List Cond := [Cond.methodLink RL 39 yX11_fault, Cond.instanceMethod yX11_fault, Cond.selects RX11 yX11_fault yX11_fault, Cond.code yX11_fault cX11_fault 6 (some .int), Cond.constantLong RX11 98 (49), Cond.constantLong RX11 100 (57), Cond.methodLink RX11 102 yX11_isLetter, Cond.static yX11_isLetter, Cond.code yX11_isLetter cX11_isLetter 1 (some .boolean), Cond.constantLong RX11 94 (65), Cond.constantLong RX11 96 (68), Cond.methodLink RX11 105 yX11_isTurn, Cond.static yX11_isTurn, Cond.code yX11_isTurn cX11_isTurn 1 (some .boolean), Cond.methodLink RX11 108 yX11_isGoing, Cond.static yX11_isGoing, Cond.code yX11_isGoing cX11_isGoing 1 (some .boolean), Cond.methodLink RL 40 yX10_night, Cond.instanceMethod yX10_night, Cond.selects RX10 yX10_night yX10_night, Cond.code yX10_night cX10_night 2 (some .int), Cond.fieldLink RX10 117 "BlindSown$Land" "field" "LBlindSown$Field;", Cond.methodLink RX10 121 yX1_goThrough, Cond.instanceMethod yX1_goThrough]
def wsL_law_r12 : List Cond := [Cond.selects RX1 yX1_goThrough yX1_goThrough, Cond.code yX1_goThrough cX1_goThrough 5 (some .int), Cond.fieldLink RX1 55 "BlindSown$Pad" "count" "I", Cond.methodLink RX1 60 yX4_startsPart, Cond.instanceMethod yX4_startsPart, Cond.selects RX4 yX4_startsPart yX4_startsPart, Cond.code yX4_startsPart cX4_startsPart 2 (some .boolean), Cond.methodLink RX1 63 yX1_goPart, Cond.instanceMethod yX1_goPart, Cond.selects RX1 yX1_goPart yX1_goPart, Cond.code yX1_goPart cX1_goPart 6 none, Cond.methodLink RX1 67 yX4_signAt, Cond.methodLink RX1 71 yX4_isLetter, Cond.methodLink RX1 77 yX6_walk, Cond.instanceMethod yX6_walk, Cond.selects RX6 yX6_walk yX6_walk, Cond.code yX6_walk cX6_walk 5 none, Cond.static yX10_stepFrom, Cond.code yX10_stepFrom cX10_stepFrom 4 (some .int), Cond.fieldLink RX10 245 "BlindSown" "STEP_X" "[I", Cond.fieldLink RX10 248 "BlindSown" "STEP_Y" "[I", Cond.methodLink RX6 51 ⟨"BlindSown$Soil", "take", "(II)V"⟩, Cond.sameMethod "BlindSown$Soil" "BlindSown$Soil" "take" "(II)V", Cond.selects RX2 ⟨"BlindSown$Soil", "take", "(II)V"⟩ yX2_take]
def wsL_law_r13 : List Cond := [Cond.instanceMethod yX2_take, Cond.code yX2_take cX2_take 4 none, Cond.selects RX7 ⟨"BlindSown$Soil", "take", "(II)V"⟩ yX7_take, Cond.instanceMethod yX7_take, Cond.code yX7_take cX7_take 3 none, Cond.fieldLink RX7 9 "BlindSown$StrayTally" "plan" "LBlindSown$Field;", Cond.fieldLink RX7 15 "BlindSown$Field" "rows" "[I", Cond.fieldLink RX7 21 "BlindSown$StrayTally" "count" "I", Cond.methodLink RX1 81 yX6_turn, Cond.instanceMethod yX6_turn, Cond.selects RX6 yX6_turn yX6_turn, Cond.code yX6_turn cX6_turn 2 none, Cond.methodLink RX6 40 yJ9_floorMod_7cf53, Cond.static yJ9_floorMod_7cf53, Cond.initialized RJ9, Cond.code yJ9_floorMod_7cf53 cJ9_floorMod_7cf53 3 (some .int), Cond.methodLink RX1 84 yX1_turnToBell, Cond.instanceMethod yX1_turnToBell, Cond.selects RX1 yX1_turnToBell yX1_turnToBell, Cond.code yX1_turnToBell cX1_turnToBell 7 none, Cond.fieldLink RX1 87 "BlindSown$Sower" "place" "I", Cond.fieldLink RX1 94 "BlindSown$Sower" "ear" "I", Cond.static yX10_cellsApart, Cond.code yX10_cellsApart cX10_cellsApart 4 (some .int)]
def wsL_law_r14 : List Cond := [Cond.methodLink RX10 251 Lib.Math.abs.name, Cond.static Lib.Math.abs.name, Cond.initialized "java/lang/Math", Cond.code Lib.Math.abs.name Lib.Math.abs.code 1 (some .int), Cond.methodLink RX10 254 Lib.Math.max.name, Cond.static Lib.Math.max.name, Cond.code Lib.Math.max.name Lib.Math.max.code 2 (some .int), Cond.methodLink RX1 97 yX6_turnTo, Cond.instanceMethod yX6_turnTo, Cond.selects RX6 yX6_turnTo yX6_turnTo, Cond.code yX6_turnTo cX6_turnTo 2 none, Cond.static yX10_bestWay, Cond.code yX10_bestWay cX10_bestWay 9 (some .int), Cond.constant RX10 257 (-1000000), Cond.methodLink RL 43 yX11_night, Cond.instanceMethod yX11_night, Cond.selects RX11 yX11_night yX11_night, Cond.code yX11_night cX11_night 3 (some .int), Cond.methodLink RX11 135 yX11_fault, Cond.methodLink RX11 139 yX11_lay, Cond.instanceMethod yX11_lay, Cond.selects RX11 yX11_lay yX11_lay, Cond.code yX11_lay cX11_lay 2 none, Cond.fieldLink RX11 111 "BlindSownModel" "nowPostMany" "I"]
def wsL_law_r15 : List Cond := [Cond.methodLink RX11 142 yX11_partsOf, Cond.instanceMethod yX11_partsOf, Cond.selects RX11 yX11_partsOf yX11_partsOf, Cond.code yX11_partsOf cX11_partsOf 3 (some .int), Cond.methodLink RX11 145 yX11_goNight, Cond.instanceMethod yX11_goNight, Cond.selects RX11 yX11_goNight yX11_goNight, Cond.code yX11_goNight cX11_goNight 6 none, Cond.methodLink RX11 120 yX11_turn, Cond.instanceMethod yX11_turn, Cond.selects RX11 yX11_turn yX11_turn, Cond.code yX11_turn cX11_turn 4 none, Cond.methodLink RX11 127 yX11_turnToPost, Cond.instanceMethod yX11_turnToPost, Cond.selects RX11 yX11_turnToPost yX11_turnToPost, Cond.code yX11_turnToPost cX11_turnToPost 10 none, Cond.methodLink RX11 117 yX11_nearest, Cond.instanceMethod yX11_nearest, Cond.selects RX11 yX11_nearest yX11_nearest, Cond.code yX11_nearest cX11_nearest 5 (some .int), Cond.methodLink RX11 114 yX11_far, Cond.static yX11_far, Cond.code yX11_far cX11_far 4 (some .int), Cond.methodLink RX11 62 yX11_size]
def wsL_law_r16 : List Cond := [Cond.static yX11_size, Cond.code yX11_size cX11_size 1 (some .int), Cond.methodLink RX11 66 yX11_stepX, Cond.static yX11_stepX, Cond.code yX11_stepX cX11_stepX 1 (some .int), Cond.constantLong RX11 60 (7), Cond.methodLink RX11 69 yX11_stepY, Cond.static yX11_stepY, Cond.code yX11_stepY cX11_stepY 1 (some .int), Cond.methodLink RX11 131 yX11_go, Cond.instanceMethod yX11_go, Cond.selects RX11 yX11_go yX11_go, Cond.code yX11_go cX11_go 6 none, Cond.methodLink RX11 124 yX11_beside, Cond.static yX11_beside, Cond.code yX11_beside cX11_beside 4 (some .int), Cond.methodLink RL 44 yX10_about, Cond.instanceMethod yX10_about, Cond.selects RX10 yX10_about yX10_about, Cond.code yX10_about cX10_about 3 (some .int), Cond.methodLink RL 48 yX11_about, Cond.instanceMethod yX11_about, Cond.selects RX11 yX11_about yX11_about, Cond.code yX11_about cX11_about 3 (some .int)]
def wsL_law_r17 : List Cond := [Cond.methodLink RL 49 yX10_up, Cond.instanceMethod yX10_up, Cond.selects RX10 yX10_up yX10_up, Cond.code yX10_up cX10_up 3 (some .int), Cond.methodLink RX10 125 yX10_isKindOrAll, Cond.static yX10_isKindOrAll, Cond.code yX10_isKindOrAll cX10_isKindOrAll 1 (some .boolean), Cond.methodLink RX10 128 yX2_grainsIn, Cond.instanceMethod yX2_grainsIn, Cond.selects RX2 yX2_grainsIn yX2_grainsIn, Cond.code yX2_grainsIn cX2_grainsIn 5 (some .int), Cond.methodLink RL 52 yX11_up, Cond.instanceMethod yX11_up, Cond.selects RX11 yX11_up yX11_up, Cond.code yX11_up cX11_up 3 (some .int), Cond.methodLink RX11 148 yX11_isKind, Cond.static yX11_isKind, Cond.code yX11_isKind cX11_isKind 1 (some .boolean), Cond.methodLink RX11 151 yX11_grainsIn, Cond.instanceMethod yX11_grainsIn, Cond.selects RX11 yX11_grainsIn yX11_grainsIn, Cond.code yX11_grainsIn cX11_grainsIn 4 (some .int), Cond.methodLink RL 53 yX10_row, Cond.instanceMethod yX10_row]
def wsL_law_r18 : List Cond := [Cond.selects RX10 yX10_row yX10_row, Cond.code yX10_row cX10_row 4 (some .int), Cond.fieldLink RX10 134 "BlindSown$Field" "rows" "[I", Cond.methodLink RL 56 yX11_row, Cond.instanceMethod yX11_row, Cond.selects RX11 yX11_row yX11_row, Cond.code yX11_row cX11_row 4 (some .int), Cond.methodLink RL 57 yX10_strayed, Cond.instanceMethod yX10_strayed, Cond.selects RX10 yX10_strayed yX10_strayed, Cond.code yX10_strayed cX10_strayed 3 (some .int), Cond.methodLink RX10 137 yX2_strays, Cond.instanceMethod yX2_strays, Cond.selects RX2 yX2_strays yX2_strays, Cond.code yX2_strays cX2_strays 5 (some .int), Cond.methodLink RX10 140 yX2_bareCells, Cond.instanceMethod yX2_bareCells, Cond.selects RX2 yX2_bareCells yX2_bareCells, Cond.code yX2_bareCells cX2_bareCells 5 (some .int), Cond.methodLink RX2 28 yX2_grainsIn, Cond.methodLink RL 60 yX11_strayed, Cond.instanceMethod yX11_strayed, Cond.selects RX11 yX11_strayed yX11_strayed, Cond.code yX11_strayed cX11_strayed 9 (some .int)]
def wsL_law_r19 : List Cond := [Cond.methodLink RL 61 yX10_guessed, Cond.instanceMethod yX10_guessed, Cond.selects RX10 yX10_guessed yX10_guessed, Cond.code yX10_guessed cX10_guessed 5 (some .int), Cond.methodLink RX10 143 yX10_isImage, Cond.static yX10_isImage, Cond.code yX10_isImage cX10_isImage 1 (some .boolean), Cond.methodLink RX10 146 yX3_copyFrom, Cond.instanceMethod yX3_copyFrom, Cond.selects RX3 yX3_copyFrom yX3_copyFrom, Cond.code yX3_copyFrom cX3_copyFrom 2 none, Cond.methodLink RX3 36 arraycopyName, Cond.native arraycopyName, Cond.static arraycopyName, Cond.initialized "java/lang/System", Cond.methodLink RX3 29 yX2_copyFrom, Cond.instanceMethod yX2_copyFrom, Cond.selects RX2 yX2_copyFrom yX2_copyFrom, Cond.code yX2_copyFrom cX2_copyFrom 2 none, Cond.methodLink RX2 18 arraycopyName, Cond.methodLink RX3 33 yX1_copyFrom, Cond.instanceMethod yX1_copyFrom, Cond.selects RX1 yX1_copyFrom yX1_copyFrom, Cond.code yX1_copyFrom cX1_copyFrom 2 none]
def wsL_law_r20 : List Cond := [Cond.methodLink RX1 32 arraycopyName, Cond.methodLink RX1 28 yX1_copySowersFrom, Cond.instanceMethod yX1_copySowersFrom, Cond.selects RX1 yX1_copySowersFrom yX1_copySowersFrom, Cond.code yX1_copySowersFrom cX1_copySowersFrom 3 none, Cond.methodLink RX1 41 yX6_copyFrom, Cond.instanceMethod yX6_copyFrom, Cond.selects RX6 yX6_copyFrom yX6_copyFrom, Cond.code yX6_copyFrom cX6_copyFrom 2 none, Cond.methodLink RX10 150 yX2_hasGrainsOf, Cond.instanceMethod yX2_hasGrainsOf, Cond.selects RX2 yX2_hasGrainsOf yX2_hasGrainsOf, Cond.code yX2_hasGrainsOf cX2_hasGrainsOf 3 (some .boolean), Cond.methodLink RL 64 yX11_guessed, Cond.instanceMethod yX11_guessed, Cond.selects RX11 yX11_guessed yX11_guessed, Cond.code yX11_guessed cX11_guessed 5 (some .int), Cond.methodLink RX11 154 yX11_layImage, Cond.instanceMethod yX11_layImage, Cond.selects RX11 yX11_layImage yX11_layImage, Cond.code yX11_layImage cX11_layImage 4 none, Cond.methodLink RX11 157 yX11_isAsNow, Cond.instanceMethod yX11_isAsNow, Cond.selects RX11 yX11_isAsNow yX11_isAsNow]
def wsL_law_r21 : List Cond := [Cond.code yX11_isAsNow cX11_isAsNow 3 (some .boolean), Cond.methodLink RL 65 yX10_spiral, Cond.instanceMethod yX10_spiral, Cond.selects RX10 yX10_spiral yX10_spiral, Cond.code yX10_spiral cX10_spiral 6 (some .int), Cond.methodLink RX10 154 yX10_turnsAllRound, Cond.static yX10_turnsAllRound, Cond.code yX10_turnsAllRound cX10_turnsAllRound 2 (some .int), Cond.methodLink RX10 258 yJ9_floorMod_7cf53, Cond.methodLink RX10 157 yX9_cellsOf, Cond.instanceMethod yX9_cellsOf, Cond.selects RX9 yX9_cellsOf yX9_cellsOf, Cond.code yX9_cellsOf cX9_cellsOf 9 (some .int), Cond.fieldLink RX9 18 "BlindSown$Trail" "length" "I", Cond.methodLink RX9 22 yJ9_floorMod_7cf53, Cond.methodLink RX9 34 yX9_visit, Cond.instanceMethod yX9_visit, Cond.selects RX9 yX9_visit yX9_visit, Cond.code yX9_visit cX9_visit 4 none, Cond.methodLink RL 68 yX11_spiral, Cond.instanceMethod yX11_spiral, Cond.selects RX11 yX11_spiral yX11_spiral, Cond.code yX11_spiral cX11_spiral 9 (some .int), Cond.constantLong RX11 164 (9)]
def wsL_law_r22 : List Cond := [Cond.constantLong RX11 166 (4), Cond.fieldLink RX11 161 "BlindSownModel" "beenMany" "I", Cond.methodLink RX11 168 yX11_be, Cond.instanceMethod yX11_be, Cond.selects RX11 yX11_be yX11_be, Cond.code yX11_be cX11_be 5 none, Cond.methodLink RL 69 yX10_bells, Cond.instanceMethod yX10_bells, Cond.selects RX10 yX10_bells yX10_bells, Cond.code yX10_bells cX10_bells 3 (some .int), Cond.fieldLink RX10 165 "BlindSown$BellSearch" "fewest" "I", Cond.fieldLink RX10 168 "BlindSown$BellSearch" "first" "I", Cond.fieldLink RX10 171 "BlindSown$BellSearch" "second" "I", Cond.methodLink RX10 161 yX0_seek, Cond.instanceMethod yX0_seek, Cond.selects RX0 yX0_seek yX0_seek, Cond.code yX0_seek cX0_seek 9 none, Cond.fieldLink RX0 25 "BlindSown$Land" "field" "LBlindSown$Field;", Cond.fieldLink RX0 31 "BlindSown$StrayTally" "plan" "LBlindSown$Field;", Cond.constant RX0 34 (1000000), Cond.fieldLink RX0 35 "BlindSown$BellSearch" "fewest" "I", Cond.constant RX0 45 (999999), Cond.methodLink RX0 39 yX4_has, Cond.instanceMethod yX4_has]
def wsL_law_r23 : List Cond := [Cond.selects RX4 yX4_has yX4_has, Cond.code yX4_has cX4_has 3 (some .boolean), Cond.methodLink RX0 46 yX0_tryPosts, Cond.instanceMethod yX0_tryPosts, Cond.selects RX0 yX0_tryPosts yX0_tryPosts, Cond.code yX0_tryPosts cX0_tryPosts 7 none, Cond.fieldLink RX0 50 "BlindSown$Land" "crew" "LBlindSown$Crew;", Cond.fieldLink RX0 55 "BlindSown$Crew" "posts" "[I", Cond.fieldLink RX0 59 "BlindSown$Crew" "postCount" "I", Cond.fieldLink RX0 62 "BlindSown$Crew" "going" "I", Cond.fieldLink RX0 65 "BlindSown$StrayTally" "count" "I", Cond.fieldLink RX0 68 "BlindSown$Pad" "count" "I", Cond.fieldLink RX0 76 "BlindSown$BellSearch" "first" "I", Cond.fieldLink RX0 79 "BlindSown$BellSearch" "second" "I", Cond.methodLink RX0 51 yX1_copySowersFrom, Cond.methodLink RX0 69 yX4_startsPart, Cond.methodLink RX0 72 yX1_goPart, Cond.methodLink RL 72 yX11_bells, Cond.instanceMethod yX11_bells, Cond.selects RX11 yX11_bells yX11_bells, Cond.code yX11_bells cX11_bells 5 (some .int), Cond.constantLong RX11 183 (2), Cond.fieldLink RX11 174 "BlindSownModel" "bestStrayed" "I", Cond.fieldLink RX11 177 "BlindSownModel" "bestFirst" "I"]
def wsL_law_r24 : List Cond := [Cond.fieldLink RX11 180 "BlindSownModel" "bestSecond" "I", Cond.methodLink RX11 185 yX11_tryBells, Cond.instanceMethod yX11_tryBells, Cond.selects RX11 yX11_tryBells yX11_tryBells, Cond.code yX11_tryBells cX11_tryBells 5 none, Cond.methodLink RX11 171 yX11_strayedNow, Cond.instanceMethod yX11_strayedNow, Cond.selects RX11 yX11_strayedNow yX11_strayedNow, Cond.code yX11_strayedNow cX11_strayedNow 4 (some .int), Cond.methodLink RL 73 yX10_thief, Cond.instanceMethod yX10_thief, Cond.selects RX10 yX10_thief yX10_thief, Cond.code yX10_thief cX10_thief 4 (some .int), Cond.fieldLink RX10 181 "BlindSown$Thief" "minute" "I", Cond.fieldLink RX10 184 "BlindSown$Thief" "catcher" "I", Cond.fieldLink RX10 187 "BlindSown$Thief" "loot" "I", Cond.methodLink RX10 174 yX10_isWay, Cond.static yX10_isWay, Cond.code yX10_isWay cX10_isWay 1 (some .boolean), Cond.methodLink RX10 177 yX8_go, Cond.instanceMethod yX8_go, Cond.selects RX8 yX8_go yX8_go, Cond.code yX8_go cX8_go 6 none, Cond.fieldLink RX8 9 "BlindSown$Thief" "minute" "I"]
def wsL_law_r25 : List Cond := [Cond.fieldLink RX8 15 "BlindSown$Thief" "catcher" "I", Cond.fieldLink RX8 18 "BlindSown$Thief" "loot" "I", Cond.fieldLink RX8 21 "BlindSown$Land" "crew" "LBlindSown$Crew;", Cond.fieldLink RX8 33 "BlindSown$Land" "field" "LBlindSown$Field;", Cond.methodLink RX8 27 yX1_listener, Cond.instanceMethod yX1_listener, Cond.selects RX1 yX1_listener yX1_listener, Cond.code yX1_listener cX1_listener 3 (some .int), Cond.methodLink RX1 51 yX6_hears, Cond.instanceMethod yX6_hears, Cond.selects RX6 yX6_hears yX6_hears, Cond.code yX6_hears cX6_hears 2 (some .boolean), Cond.methodLink RX8 37 yX2_grainsIn, Cond.methodLink RL 76 yX11_thief, Cond.instanceMethod yX11_thief, Cond.selects RX11 yX11_thief yX11_thief, Cond.code yX11_thief cX11_thief 4 (some .int), Cond.fieldLink RX11 189 "BlindSownModel" "caughtAt" "I", Cond.fieldLink RX11 192 "BlindSownModel" "caughtBy" "I", Cond.fieldLink RX11 195 "BlindSownModel" "loot" "I", Cond.methodLink RX11 201 yX11_steal, Cond.instanceMethod yX11_steal, Cond.selects RX11 yX11_steal yX11_steal, Cond.code yX11_steal cX11_steal 6 none]
def wsL_law_r26 : List Cond := [Cond.methodLink RX11 198 yX11_heardBy, Cond.instanceMethod yX11_heardBy, Cond.selects RX11 yX11_heardBy yX11_heardBy, Cond.code yX11_heardBy cX11_heardBy 3 (some .int), Cond.methodLink RL 77 yX10_safest, Cond.instanceMethod yX10_safest, Cond.selects RX10 yX10_safest yX10_safest, Cond.code yX10_safest cX10_safest 7 (some .int), Cond.methodLink RX10 190 yX10_onEdge, Cond.static yX10_onEdge, Cond.code yX10_onEdge cX10_onEdge 3 (some .boolean), Cond.methodLink RL 80 yX11_safest, Cond.instanceMethod yX11_safest, Cond.selects RX11 yX11_safest yX11_safest, Cond.code yX11_safest cX11_safest 5 (some .int), Cond.methodLink RX11 204 yX11_isEdge, Cond.static yX11_isEdge, Cond.code yX11_isEdge cX11_isEdge 3 (some .boolean), Cond.methodLink RL 81 yX10_swap, Cond.instanceMethod yX10_swap, Cond.selects RX10 yX10_swap yX10_swap, Cond.code yX10_swap cX10_swap 3 (some .int), Cond.methodLink RX10 193 yX10_areTwoSowers, Cond.static yX10_areTwoSowers]
def wsL_law_r27 : List Cond := [Cond.code yX10_areTwoSowers cX10_areTwoSowers 2 (some .boolean), Cond.methodLink RX10 197 yX1_exchangeBags, Cond.instanceMethod yX1_exchangeBags, Cond.selects RX1 yX1_exchangeBags yX1_exchangeBags, Cond.code yX1_exchangeBags cX1_exchangeBags 7 none, Cond.fieldLink RX1 48 "BlindSown$Sower" "kind" "I", Cond.fieldLink RX1 45 "BlindSown$Sower" "grains" "I", Cond.methodLink RL 84 yX11_swap, Cond.instanceMethod yX11_swap, Cond.selects RX11 yX11_swap yX11_swap, Cond.code yX11_swap cX11_swap 3 (some .int), Cond.methodLink RX11 207 yX11_areTwo, Cond.static yX11_areTwo, Cond.code yX11_areTwo cX11_areTwo 2 (some .boolean), Cond.methodLink RX11 211 yX11_swapBags, Cond.static yX11_swapBags, Cond.code yX11_swapBags cX11_swapBags 5 none, Cond.methodLink RL 85 yX10_found, Cond.instanceMethod yX10_found, Cond.selects RX10 yX10_found yX10_found, Cond.code yX10_found cX10_found 5 (some .int), Cond.fieldLink RX10 200 "BlindSown$Crew" "going" "I", Cond.methodLink RX10 203 yX4_startsPart, Cond.methodLink RX10 206 yX1_goPart]
def wsL_law_r28 : List Cond := [Cond.methodLink RL 88 yX11_found, Cond.instanceMethod yX11_found, Cond.selects RX11 yX11_found yX11_found, Cond.code yX11_found cX11_found 6 (some .int), Cond.methodLink RL 89 yX10_over, Cond.instanceMethod yX10_over, Cond.selects RX10 yX10_over yX10_over, Cond.code yX10_over cX10_over 4 (some .int), Cond.methodLink RX10 216 Lib.Math.min.name, Cond.static Lib.Math.min.name, Cond.code Lib.Math.min.name Lib.Math.min.code 2 (some .int), Cond.methodLink RX10 210 yX2_grainsBeyond, Cond.instanceMethod yX2_grainsBeyond, Cond.selects RX2 yX2_grainsBeyond yX2_grainsBeyond, Cond.code yX2_grainsBeyond cX2_grainsBeyond 5 (some .int), Cond.methodLink RX10 213 yX2_allGrains, Cond.instanceMethod yX2_allGrains, Cond.selects RX2 yX2_allGrains yX2_allGrains, Cond.code yX2_allGrains cX2_allGrains 1 (some .int), Cond.methodLink RX2 24 yX2_grainsBeyond, Cond.methodLink RL 92 yX11_over, Cond.instanceMethod yX11_over, Cond.selects RX11 yX11_over yX11_over, Cond.code yX11_over cX11_over 5 (some .int)]
def wsL_law_r29 : List Cond := [Cond.methodLink RX11 215 yX11_overOf, Cond.instanceMethod yX11_overOf, Cond.selects RX11 yX11_overOf yX11_overOf, Cond.code yX11_overOf cX11_overOf 6 (some .int), Cond.methodLink RL 93 yX10_fruit, Cond.instanceMethod yX10_fruit, Cond.selects RX10 yX10_fruit yX10_fruit, Cond.code yX10_fruit cX10_fruit 4 (some .int), Cond.fieldLink RX10 221 "BlindSown$Land" "fruits" "[I", Cond.methodLink RL 96 yX11_fruit, Cond.instanceMethod yX11_fruit, Cond.selects RX11 yX11_fruit yX11_fruit, Cond.code yX11_fruit cX11_fruit 4 (some .int), Cond.methodLink RL 97 yX10_share, Cond.instanceMethod yX10_share, Cond.selects RX10 yX10_share yX10_share, Cond.code yX10_share cX10_share 2 (some .int), Cond.methodLink RX10 224 yX3_harvest, Cond.instanceMethod yX3_harvest, Cond.selects RX3 yX3_harvest yX3_harvest, Cond.code yX3_harvest cX3_harvest 3 (some .int), Cond.methodLink RX3 42 yX2_grainsBeyond, Cond.methodLink RX10 227 yX3_partOfHarvest, Cond.instanceMethod yX3_partOfHarvest]
def wsL_law_r30 : List Cond := [Cond.selects RX3 yX3_partOfHarvest yX3_partOfHarvest, Cond.code yX3_partOfHarvest cX3_partOfHarvest 17 (some .int), Cond.constantLong RX3 53 (4), Cond.methodLink RX3 46 yX3_harvest, Cond.methodLink RX3 50 yX3_allSteps, Cond.instanceMethod yX3_allSteps, Cond.selects RX3 yX3_allSteps yX3_allSteps, Cond.code yX3_allSteps cX3_allSteps 3 (some .int), Cond.fieldLink RX3 58 "BlindSown$Crew" "sowers" "[LBlindSown$Sower;", Cond.fieldLink RX3 62 "BlindSown$Sower" "walked" "I", Cond.methodLink RX3 55 yX3_claim, Cond.instanceMethod yX3_claim, Cond.selects RX3 yX3_claim yX3_claim, Cond.code yX3_claim cX3_claim 3 (some .int), Cond.methodLink RL 100 yX11_share, Cond.instanceMethod yX11_share, Cond.selects RX11 yX11_share yX11_share, Cond.code yX11_share cX11_share 9 (some .int), Cond.methodLink RX11 222 yX11_harvest, Cond.instanceMethod yX11_harvest, Cond.selects RX11 yX11_harvest yX11_harvest, Cond.code yX11_harvest cX11_harvest 4 (some .int), Cond.methodLink RX11 219 yX11_walkedAll, Cond.instanceMethod yX11_walkedAll]
def wsL_law_r31 : List Cond := [Cond.selects RX11 yX11_walkedAll yX11_walkedAll, Cond.code yX11_walkedAll cX11_walkedAll 3 (some .int), Cond.methodLink RX11 225 yX11_partOf, Cond.instanceMethod yX11_partOf, Cond.selects RX11 yX11_partOf yX11_partOf, Cond.code yX11_partOf cX11_partOf 2 (some .int), Cond.methodLink RX11 228 yX11_restOf, Cond.instanceMethod yX11_restOf, Cond.selects RX11 yX11_restOf yX11_restOf, Cond.code yX11_restOf cX11_restOf 3 (some .long), Cond.methodLink RL 101 yX10_facing, Cond.instanceMethod yX10_facing, Cond.selects RX10 yX10_facing yX10_facing, Cond.code yX10_facing cX10_facing 3 (some .int), Cond.methodLink RX10 230 yX6_turnsToFace, Cond.instanceMethod yX6_turnsToFace, Cond.selects RX6 yX6_turnsToFace yX6_turnsToFace, Cond.code yX6_turnsToFace cX6_turnsToFace 5 (some .int), Cond.methodLink RL 104 yX11_facing, Cond.instanceMethod yX11_facing, Cond.selects RX11 yX11_facing yX11_facing, Cond.code yX11_facing cX11_facing 8 (some .int), Cond.methodLink RL 105 yX10_rest, Cond.instanceMethod yX10_rest]
def wsL_law_r32 : List Cond := [Cond.selects RX10 yX10_rest yX10_rest, Cond.code yX10_rest cX10_rest 2 (some .int), Cond.fieldLink RX10 233 "BlindSown$Sower" "place" "I", Cond.methodLink RX10 236 yX2_nearestEmpty, Cond.instanceMethod yX2_nearestEmpty, Cond.selects RX2 yX2_nearestEmpty yX2_nearestEmpty, Cond.code yX2_nearestEmpty cX2_nearestEmpty 6 (some .int), Cond.methodLink RL 108 yX11_rest, Cond.instanceMethod yX11_rest, Cond.selects RX11 yX11_rest yX11_rest, Cond.code yX11_rest cX11_rest 5 (some .int), Cond.methodLink RL 109 yX10_image, Cond.instanceMethod yX10_image, Cond.selects RX10 yX10_image yX10_image, Cond.code yX10_image cX10_image 2 (some .int), Cond.methodLink RL 112 yX11_image, Cond.instanceMethod yX11_image, Cond.selects RX11 yX11_image yX11_image, Cond.code yX11_image cX11_image 2 (some .int), Cond.fieldLink RX11 236 "BlindSownModel" "keptAt" "I", Cond.fieldLink RX11 232 "BlindSownModel" "isWriting" "Z", Cond.methodLink RX11 242 yX11_passAll, Cond.instanceMethod yX11_passAll, Cond.selects RX11 yX11_passAll yX11_passAll]
def wsL_law_r33 : List Cond := [Cond.code yX11_passAll cX11_passAll 2 none, Cond.methodLink RX11 239 yX11_pass, Cond.instanceMethod yX11_pass, Cond.selects RX11 yX11_pass yX11_pass, Cond.code yX11_pass cX11_pass 3 (some .int), Cond.methodLink RL 113 yX10_restore, Cond.instanceMethod yX10_restore, Cond.selects RX10 yX10_restore yX10_restore, Cond.code yX10_restore cX10_restore 2 (some .int), Cond.methodLink RL 116 yX11_restore, Cond.instanceMethod yX11_restore, Cond.selects RX11 yX11_restore yX11_restore, Cond.code yX11_restore cX11_restore 2 (some .int), Cond.methodLink RL 117 yX10_told, Cond.instanceMethod yX10_told, Cond.selects RX10 yX10_told yX10_told, Cond.code yX10_told cX10_told 2 (some .int), Cond.methodLink RX10 239 yX1_postAt, Cond.instanceMethod yX1_postAt, Cond.selects RX1 yX1_postAt yX1_postAt, Cond.code yX1_postAt cX1_postAt 2 (some .int), Cond.methodLink RX10 242 yX1_grainsInBags, Cond.instanceMethod yX1_grainsInBags, Cond.selects RX1 yX1_grainsInBags yX1_grainsInBags]
def wsL_law_r34 : List Cond := [Cond.code yX1_grainsInBags cX1_grainsInBags 3 (some .int), Cond.methodLink RL 120 yX11_told, Cond.instanceMethod yX11_told, Cond.selects RX11 yX11_told yX11_told, Cond.code yX11_told cX11_told 2 (some .int), Cond.constantLong RX11 245 (6), Cond.methodLink RX11 247 yX11_bags, Cond.instanceMethod yX11_bags, Cond.selects RX11 yX11_bags yX11_bags, Cond.code yX11_bags cX11_bags 3 (some .int)]
def wsL_law : List Cond := (wsL_law_r1 ++ (wsL_law_r2 ++ (wsL_law_r3 ++ (wsL_law_r4 ++ (wsL_law_r5 ++ (wsL_law_r6 ++ (wsL_law_r7 ++ (wsL_law_r8 ++ (wsL_law_r9 ++ (wsL_law_r10 ++ (wsL_law_r11 ++ (wsL_law_r12 ++ (wsL_law_r13 ++ (wsL_law_r14 ++ (wsL_law_r15 ++ (wsL_law_r16 ++ (wsL_law_r17 ++ (wsL_law_r18 ++ (wsL_law_r19 ++ (wsL_law_r20 ++ (wsL_law_r21 ++ (wsL_law_r22 ++ (wsL_law_r23 ++ (wsL_law_r24 ++ (wsL_law_r25 ++ (wsL_law_r26 ++ (wsL_law_r27 ++ (wsL_law_r28 ++ (wsL_law_r29 ++ (wsL_law_r30 ++ (wsL_law_r31 ++ (wsL_law_r32 ++ (wsL_law_r33 ++ wsL_law_r34))))))))))))))))))))))))))))))))) ++ wsX100 ++ wsX110 ++ wsX40 ++ wsX30 ++ wsX00 ++ wsX80 ++ wsX90 ++ wsX20 ++ wsX10 ++ wsX60 ++ wsX70 ++ ([] : List Cond)
set_option maxRecDepth 20000 in
theorem gwsL_law_r1 : GoodIn lw_tbl wsL_law_r1 := goodIn_r _ [44, 45, 30, 656, 657, 41, 46, 47, 48, 49, 50, 51, 52, 53, 31, 253, 69, 70, 32, 254, 255, 198, 256, 257] (by decide +kernel) (by decide +kernel)
set_option maxRecDepth 20000 in
theorem gwsL_law_r2 : GoodIn lw_tbl wsL_law_r2 := goodIn_r _ [258, 175, 176, 37, 259, 218, 219, 39, 260, 237, 238, 40, 261, 55, 56, 57, 68, 58, 71, 72, 73, 74, 75, 76] (by decide +kernel) (by decide +kernel)
set_option maxRecDepth 20000 in
theorem gwsL_law_r3 : GoodIn lw_tbl wsL_law_r3 := goodIn_r _ [34, 157, 93, 94, 35, 161, 165, 77, 78, 79, 84, 85, 81, 33, 82, 83, 95, 96, 97, 98, 99, 137, 140, 145] (by decide +kernel) (by decide +kernel)
set_option maxRecDepth 20000 in
theorem gwsL_law_r4 : GoodIn lw_tbl wsL_law_r4 := goodIn_r _ [101, 36, 102, 103, 104, 105, 110, 112, 115, 178, 179, 180, 181, 199, 183, 184, 38, 200, 182, 186, 187, 221, 222, 223] (by decide +kernel) (by decide +kernel)
set_option maxRecDepth 20000 in
theorem gwsL_law_r5 : GoodIn lw_tbl wsL_law_r5 := goodIn_r _ [240, 241, 242, 243, 244, 658, 659, 660, 661, 662, 663, 664, 666, 667, 668, 670, 671, 672, 674, 682, 683, 684, 281, 282] (by decide +kernel) (by decide +kernel)
set_option maxRecDepth 20000 in
theorem gwsL_law_r6 : GoodIn lw_tbl wsL_law_r6 := goodIn_r _ [283, 284, 294, 163, 138, 285, 286, 287, 288, 289, 290, 291, 292, 293, 296, 297, 298, 299, 106, 109, 114, 117, 119, 300] (by decide +kernel) (by decide +kernel)
set_option maxRecDepth 20000 in
theorem gwsL_law_r7 : GoodIn lw_tbl wsL_law_r7 := goodIn_r _ [301, 302, 303, 738, 739, 740, 741, 749, 742, 743, 744, 745, 746, 747, 748, 750, 752, 5, 753, 304, 305, 306, 307, 143] (by decide +kernel) (by decide +kernel)
set_option maxRecDepth 20000 in
theorem gwsL_law_r8 : GoodIn lw_tbl wsL_law_r8 := goodIn_r _ [308, 309, 310, 311, 312, 313, 314, 142, 315, 316, 317, 318, 754, 755, 756, 757, 665, 758, 759, 760, 761, 319, 320, 321] (by decide +kernel) (by decide +kernel)
set_option maxRecDepth 20000 in
theorem gwsL_law_r9 : GoodIn lw_tbl wsL_law_r9 := goodIn_r _ [322, 762, 763, 764, 765, 323, 324, 325, 326, 61, 327, 328, 329, 330, 59, 766, 767, 768, 769, 770, 771, 669, 331, 332] (by decide +kernel) (by decide +kernel)
set_option maxRecDepth 20000 in
theorem gwsL_law_r10 : GoodIn lw_tbl wsL_law_r10 := goodIn_r _ [333, 334, 772, 773, 774, 775, 335, 336, 337, 338, 339, 340, 341, 342, 343, 344, 345, 346, 348, 349, 350, 351, 352, 353] (by decide +kernel) (by decide +kernel)
set_option maxRecDepth 20000 in
theorem gwsL_law_r11 : GoodIn lw_tbl wsL_law_r11 := goodIn_r _ [776, 777, 778, 779, 780, 781, 782, 783, 784, 785, 786, 787, 788, 789, 790, 791, 792, 354, 355, 356, 357, 160, 358, 359] (by decide +kernel) (by decide +kernel)
set_option maxRecDepth 20000 in
theorem gwsL_law_r12 : GoodIn lw_tbl wsL_law_r12 := goodIn_r _ [360, 361, 62, 362, 363, 364, 365, 366, 367, 368, 369, 370, 371, 373, 374, 375, 376, 378, 379, 380, 382, 384, 386, 387] (by decide +kernel) (by decide +kernel)
set_option maxRecDepth 20000 in
theorem gwsL_law_r13 : GoodIn lw_tbl wsL_law_r13 := goodIn_r _ [388, 389, 390, 391, 392, 189, 86, 191, 393, 394, 395, 396, 397, 398, 42, 399, 400, 402, 0, 403, 107, 116, 405, 406] (by decide +kernel) (by decide +kernel)
set_option maxRecDepth 20000 in
theorem gwsL_law_r14 : GoodIn lw_tbl wsL_law_r14 := goodIn_r _ [407, 408, 42, 409, 410, 411, 412, 413, 414, 415, 416, 418, 419, 420, 793, 794, 795, 796, 797, 798, 800, 6, 801, 673] (by decide +kernel) (by decide +kernel)
set_option maxRecDepth 20000 in
theorem gwsL_law_r15 : GoodIn lw_tbl wsL_law_r15 := goodIn_r _ [802, 804, 7, 805, 806, 808, 8, 809, 810, 812, 9, 813, 814, 816, 10, 817, 818, 820, 11, 821, 822, 823, 824, 825] (by decide +kernel) (by decide +kernel)
set_option maxRecDepth 20000 in
theorem gwsL_law_r16 : GoodIn lw_tbl wsL_law_r16 := goodIn_r _ [826, 827, 828, 829, 830, 831, 832, 833, 834, 835, 837, 12, 838, 839, 840, 841, 421, 422, 423, 424, 842, 843, 844, 845] (by decide +kernel) (by decide +kernel)
set_option maxRecDepth 20000 in
theorem gwsL_law_r17 : GoodIn lw_tbl wsL_law_r17 := goodIn_r _ [425, 426, 427, 428, 429, 430, 431, 432, 433, 434, 435, 846, 847, 848, 849, 850, 851, 852, 853, 855, 13, 856, 436, 437] (by decide +kernel) (by decide +kernel)
set_option maxRecDepth 20000 in
theorem gwsL_law_r18 : GoodIn lw_tbl wsL_law_r18 := goodIn_r _ [438, 439, 87, 857, 858, 859, 860, 440, 441, 442, 443, 444, 445, 446, 447, 448, 449, 450, 451, 453, 861, 862, 863, 864] (by decide +kernel) (by decide +kernel)
set_option maxRecDepth 20000 in
theorem gwsL_law_r19 : GoodIn lw_tbl wsL_law_r19 := goodIn_r _ [454, 455, 456, 457, 458, 459, 460, 461, 462, 463, 464, 485, 471, 470, 43, 465, 466, 467, 468, 469, 472, 473, 474, 475] (by decide +kernel) (by decide +kernel)
set_option maxRecDepth 20000 in
theorem gwsL_law_r20 : GoodIn lw_tbl wsL_law_r20 := goodIn_r _ [484, 476, 477, 478, 479, 480, 481, 482, 483, 486, 487, 488, 489, 865, 866, 867, 868, 869, 871, 14, 872, 873, 875, 15] (by decide +kernel) (by decide +kernel)
set_option maxRecDepth 20000 in
theorem gwsL_law_r21 : GoodIn lw_tbl wsL_law_r21 := goodIn_r _ [876, 490, 491, 492, 493, 494, 495, 496, 497, 498, 499, 500, 501, 245, 502, 505, 507, 1, 508, 877, 878, 879, 880, 881] (by decide +kernel) (by decide +kernel)
set_option maxRecDepth 20000 in
theorem gwsL_law_r22 : GoodIn lw_tbl wsL_law_r22 := goodIn_r _ [882, 675, 883, 885, 16, 886, 509, 510, 511, 512, 202, 204, 206, 513, 514, 515, 516, 158, 190, 517, 201, 522, 518, 519] (by decide +kernel) (by decide +kernel)
set_option maxRecDepth 20000 in
theorem gwsL_law_r23 : GoodIn lw_tbl wsL_law_r23 := goodIn_r _ [520, 521, 523, 525, 2, 526, 164, 141, 144, 146, 192, 60, 203, 205, 527, 528, 529, 887, 888, 889, 890, 891, 676, 677] (by decide +kernel) (by decide +kernel)
set_option maxRecDepth 20000 in
theorem gwsL_law_r24 : GoodIn lw_tbl wsL_law_r24 := goodIn_r _ [678, 892, 894, 17, 895, 896, 898, 18, 899, 530, 531, 532, 533, 225, 227, 229, 534, 535, 536, 537, 538, 539, 540, 224] (by decide +kernel) (by decide +kernel)
set_option maxRecDepth 20000 in
theorem gwsL_law_r25 : GoodIn lw_tbl wsL_law_r25 := goodIn_r _ [226, 228, 162, 159, 541, 542, 543, 544, 545, 546, 547, 548, 550, 900, 901, 902, 903, 679, 680, 681, 904, 906, 19, 907] (by decide +kernel) (by decide +kernel)
set_option maxRecDepth 20000 in
theorem gwsL_law_r26 : GoodIn lw_tbl wsL_law_r26 := goodIn_r _ [908, 910, 20, 911, 552, 553, 554, 555, 556, 557, 558, 912, 913, 914, 915, 916, 917, 918, 559, 560, 561, 562, 563, 564] (by decide +kernel) (by decide +kernel)
set_option maxRecDepth 20000 in
theorem gwsL_law_r27 : GoodIn lw_tbl wsL_law_r27 := goodIn_r _ [565, 566, 567, 568, 569, 111, 113, 919, 920, 921, 922, 923, 924, 925, 926, 927, 928, 570, 571, 572, 573, 147, 574, 575] (by decide +kernel) (by decide +kernel)
set_option maxRecDepth 20000 in
theorem gwsL_law_r28 : GoodIn lw_tbl wsL_law_r28 := goodIn_r _ [929, 930, 931, 932, 576, 577, 578, 579, 589, 590, 591, 580, 581, 582, 583, 584, 585, 586, 587, 588, 933, 934, 935, 936] (by decide +kernel) (by decide +kernel)
set_option maxRecDepth 20000 in
theorem gwsL_law_r29 : GoodIn lw_tbl wsL_law_r29 := goodIn_r _ [937, 939, 21, 940, 592, 593, 594, 595, 166, 941, 942, 943, 944, 596, 597, 598, 599, 600, 601, 602, 603, 604, 605, 606] (by decide +kernel) (by decide +kernel)
set_option maxRecDepth 20000 in
theorem gwsL_law_r30 : GoodIn lw_tbl wsL_law_r30 := goodIn_r _ [607, 608, 614, 609, 610, 612, 3, 613, 139, 118, 615, 617, 4, 618, 945, 946, 947, 948, 949, 951, 22, 952, 953, 955] (by decide +kernel) (by decide +kernel)
set_option maxRecDepth 20000 in
theorem gwsL_law_r31 : GoodIn lw_tbl wsL_law_r31 := goodIn_r _ [23, 956, 957, 959, 24, 960, 961, 963, 25, 964, 619, 620, 621, 622, 623, 624, 625, 626, 965, 966, 967, 968, 627, 628] (by decide +kernel) (by decide +kernel)
set_option maxRecDepth 20000 in
theorem gwsL_law_r32 : GoodIn lw_tbl wsL_law_r32 := goodIn_r _ [629, 630, 108, 631, 632, 633, 634, 969, 970, 971, 972, 636, 637, 638, 639, 973, 974, 975, 976, 685, 686, 977, 979, 26] (by decide +kernel) (by decide +kernel)
set_option maxRecDepth 20000 in
theorem gwsL_law_r33 : GoodIn lw_tbl wsL_law_r33 := goodIn_r _ [980, 981, 983, 27, 984, 640, 641, 642, 643, 985, 986, 987, 988, 644, 645, 646, 647, 648, 649, 650, 651, 652, 653, 654] (by decide +kernel) (by decide +kernel)
set_option maxRecDepth 20000 in
theorem gwsL_law_r34 : GoodIn lw_tbl wsL_law_r34 := goodIn_r _ [655, 989, 990, 991, 992, 993, 994, 996, 28, 997] (by decide +kernel) (by decide +kernel)
theorem gwsX100 : GoodIn lw_tbl wsX100 := goodIn_r _ [262, 264, 266, 268, 270, 272, 274, 276, 278] (by decide +kernel) (by decide +kernel)
theorem gwsX110 : GoodIn lw_tbl wsX110 := goodIn_r _ [687, 689, 691, 693, 695, 697, 699, 701, 703, 705, 707, 709, 711, 713, 715, 717, 719, 721, 723, 725, 727, 729, 731, 733, 735] (by decide +kernel) (by decide +kernel)
theorem gwsX40 : GoodIn lw_tbl wsX40 := goodIn_r _ [63, 65] (by decide +kernel) (by decide +kernel)
theorem gwsX30 : GoodIn lw_tbl wsX30 := goodIn_r _ [167, 169, 171] (by decide +kernel) (by decide +kernel)
theorem gwsX00 : GoodIn lw_tbl wsX00 := goodIn_r _ [207, 209, 211, 213, 215] (by decide +kernel) (by decide +kernel)
theorem gwsX80 : GoodIn lw_tbl wsX80 := goodIn_r _ [230, 232, 234] (by decide +kernel) (by decide +kernel)
theorem gwsX90 : GoodIn lw_tbl wsX90 := goodIn_r _ [246, 248, 250] (by decide +kernel) (by decide +kernel)
theorem gwsX20 : GoodIn lw_tbl wsX20 := goodIn_r _ [88, 90] (by decide +kernel) (by decide +kernel)
theorem gwsX10 : GoodIn lw_tbl wsX10 := goodIn_r _ [148, 150, 152, 154] (by decide +kernel) (by decide +kernel)
theorem gwsX60 : GoodIn lw_tbl wsX60 := goodIn_r _ [120, 122, 124, 126, 128, 130, 132, 134] (by decide +kernel) (by decide +kernel)
theorem gwsX70 : GoodIn lw_tbl wsX70 := goodIn_r _ [193, 195] (by decide +kernel) (by decide +kernel)
theorem tb_g : GoodIn lw_tbl wsL_law := goodIn_app (goodIn_app (goodIn_app (goodIn_app (goodIn_app (goodIn_app (goodIn_app (goodIn_app (goodIn_app (goodIn_app (goodIn_app (goodIn_app (goodIn_app gwsL_law_r1 (goodIn_app gwsL_law_r2 (goodIn_app gwsL_law_r3 (goodIn_app gwsL_law_r4 (goodIn_app gwsL_law_r5 (goodIn_app gwsL_law_r6 (goodIn_app gwsL_law_r7 (goodIn_app gwsL_law_r8 (goodIn_app gwsL_law_r9 (goodIn_app gwsL_law_r10 (goodIn_app gwsL_law_r11 (goodIn_app gwsL_law_r12 (goodIn_app gwsL_law_r13 (goodIn_app gwsL_law_r14 (goodIn_app gwsL_law_r15 (goodIn_app gwsL_law_r16 (goodIn_app gwsL_law_r17 (goodIn_app gwsL_law_r18 (goodIn_app gwsL_law_r19 (goodIn_app gwsL_law_r20 (goodIn_app gwsL_law_r21 (goodIn_app gwsL_law_r22 (goodIn_app gwsL_law_r23 (goodIn_app gwsL_law_r24 (goodIn_app gwsL_law_r25 (goodIn_app gwsL_law_r26 (goodIn_app gwsL_law_r27 (goodIn_app gwsL_law_r28 (goodIn_app gwsL_law_r29 (goodIn_app gwsL_law_r30 (goodIn_app gwsL_law_r31 (goodIn_app gwsL_law_r32 (goodIn_app gwsL_law_r33 (gwsL_law_r34)))))))))))))))))))))))))))))))))) gwsX100) gwsX110) gwsX40) gwsX30) gwsX00) gwsX80) gwsX90) gwsX20) gwsX10) gwsX60) gwsX70) (fun _ h => absurd h List.not_mem_nil)
theorem wsL_law_in : ∀ w ∈ wsL_law, w ∈ lw_tbl := fun w h => (tb_g w h).1
theorem tb_good : ∀ w ∈ wsL_law, (w.onTables && w.keeps) = true ∨ ∃ ty, w = .arrayClass ty := fun w h => (tb_g w h).2
theorem inlX0 : ∀ w ∈ wsX00, w ∈ wsL_law := fun _ h => List.mem_append_left _ (List.mem_append_left _ (List.mem_append_left _ (List.mem_append_left _ (List.mem_append_left _ (List.mem_append_left _ (List.mem_append_left _ (List.mem_append_right _ h)))))))
theorem inlX1 : ∀ w ∈ wsX10, w ∈ wsL_law := fun _ h => List.mem_append_left _ (List.mem_append_left _ (List.mem_append_left _ (List.mem_append_right _ h)))
theorem inlX2 : ∀ w ∈ wsX20, w ∈ wsL_law := fun _ h => List.mem_append_left _ (List.mem_append_left _ (List.mem_append_left _ (List.mem_append_left _ (List.mem_append_right _ h))))
theorem inlX3 : ∀ w ∈ wsX30, w ∈ wsL_law := fun _ h => List.mem_append_left _ (List.mem_append_left _ (List.mem_append_left _ (List.mem_append_left _ (List.mem_append_left _ (List.mem_append_left _ (List.mem_append_left _ (List.mem_append_left _ (List.mem_append_right _ h))))))))
theorem inlX4 : ∀ w ∈ wsX40, w ∈ wsL_law := fun _ h => List.mem_append_left _ (List.mem_append_left _ (List.mem_append_left _ (List.mem_append_left _ (List.mem_append_left _ (List.mem_append_left _ (List.mem_append_left _ (List.mem_append_left _ (List.mem_append_left _ (List.mem_append_right _ h)))))))))
theorem inlX6 : ∀ w ∈ wsX60, w ∈ wsL_law := fun _ h => List.mem_append_left _ (List.mem_append_left _ (List.mem_append_right _ h))
theorem inlX7 : ∀ w ∈ wsX70, w ∈ wsL_law := fun _ h => List.mem_append_left _ (List.mem_append_right _ h)
theorem inlX8 : ∀ w ∈ wsX80, w ∈ wsL_law := fun _ h => List.mem_append_left _ (List.mem_append_left _ (List.mem_append_left _ (List.mem_append_left _ (List.mem_append_left _ (List.mem_append_left _ (List.mem_append_right _ h))))))
theorem inlX9 : ∀ w ∈ wsX90, w ∈ wsL_law := fun _ h => List.mem_append_left _ (List.mem_append_left _ (List.mem_append_left _ (List.mem_append_left _ (List.mem_append_left _ (List.mem_append_right _ h)))))
theorem inlX10 : ∀ w ∈ wsX100, w ∈ wsL_law := fun _ h => List.mem_append_left _ (List.mem_append_left _ (List.mem_append_left _ (List.mem_append_left _ (List.mem_append_left _ (List.mem_append_left _ (List.mem_append_left _ (List.mem_append_left _ (List.mem_append_left _ (List.mem_append_left _ (List.mem_append_left _ (List.mem_append_right _ h)))))))))))
theorem inlX11 : ∀ w ∈ wsX110, w ∈ wsL_law := fun _ h => List.mem_append_left _ (List.mem_append_left _ (List.mem_append_left _ (List.mem_append_left _ (List.mem_append_left _ (List.mem_append_left _ (List.mem_append_left _ (List.mem_append_left _ (List.mem_append_left _ (List.mem_append_left _ (List.mem_append_right _ h))))))))))
abbrev vwCl : List vw_C := [(RX0, TX0, 5), (RX1, TX1, 4), (RX2, TX2, 2), (RX3, TX3, 3), (RX4, TX4, 2), (RX6, TX6, 8), (RX7, TX7, 2), (RX8, TX8, 3), (RX9, TX9, 3), (RX10, TX10, 9), (RX11, TX11, 25)]
def nestL : List (String × Nat × MethodName) := [(RX10, 9, ⟨RX4, "<init>", "()V"⟩), (RX2, 3, ⟨RX5, "<init>", "()V"⟩), (RX10, 39, ⟨RX0, "<init>", "()V"⟩), (RX0, 20, ⟨RX7, "<init>", "()V"⟩), (RX7, 3, ⟨RX5, "<init>", "()V"⟩), (RX10, 46, ⟨RX8, "<init>", "()V"⟩), (RX10, 53, ⟨RX9, "<init>", "()V"⟩), (RX4, 23, ⟨RX10, "within", "(III)Z"⟩), (RX1, 74, ⟨RX10, "isSower", "(I)Z"⟩), (RX6, 48, ⟨RX10, "stepFrom", "(II)I"⟩), (RX1, 90, ⟨RX10, "cellsApart", "(II)I"⟩), (RX6, 45, ⟨RX10, "bestWay", "(II)I"⟩), (RX2, 31, ⟨RX10, "isKind", "(I)Z"⟩), (RX6, 36, ⟨RX10, "cellsApart", "(II)I"⟩), (RX8, 43, ⟨RX10, "stepFrom", "(II)I"⟩), (RX2, 35, ⟨RX10, "cellsApart", "(II)I"⟩)]
def nestF : List (String × Nat × String) := [(RX9, 28, "STEP_X"), (RX9, 31, "STEP_Y")]
