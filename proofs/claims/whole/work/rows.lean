section
-- ===== PART A: goes FIRST, ahead of the names: the tables' words, and 'selects' of the private methods out of them =====
/-- a private method of a class that the tables say can be made, by its rows of tables_1 -/
def lw_okq (q : MethodName × Nat) : Prop := (q.1.cls ≠ "java/lang/invoke/MethodHandle" ∧ q.1.cls ≠ "java/lang/invoke/VarHandle") ∧ Cond.instantiable q.1.cls q.2 ∈ tables_1 ∧ Cond.privateMethod q.1 ∈ tables_1 ∧ Cond.instanceMethod q.1 ∈ tables_1
theorem lw_p0 : lw_okq (⟨"GalleryRays$History", "dropOldest", "()V"⟩, 2) := ⟨⟨by decide +kernel, by decide +kernel⟩, List.mem_of_getElem? (i := 69) (by decide +kernel), List.mem_of_getElem? (i := 289) (by decide +kernel), List.mem_of_getElem? (i := 290) (by decide +kernel)⟩
theorem lw_p1 : lw_okq (⟨"GalleryRays$Text", "readOne", "()V"⟩, 6) := ⟨⟨by decide +kernel, by decide +kernel⟩, List.mem_of_getElem? (i := 86) (by decide +kernel), List.mem_of_getElem? (i := 363) (by decide +kernel), List.mem_of_getElem? (i := 364) (by decide +kernel)⟩
theorem lw_p2 : lw_okq (⟨"GalleryRays$Text", "takeWord", "()I"⟩, 6) := ⟨⟨by decide +kernel, by decide +kernel⟩, List.mem_of_getElem? (i := 86) (by decide +kernel), List.mem_of_getElem? (i := 367) (by decide +kernel), List.mem_of_getElem? (i := 368) (by decide +kernel)⟩
theorem lw_p3 : lw_okq (⟨"GalleryRays$Text", "sameSigns", "(Ljava/lang/String;)I"⟩, 6) := ⟨⟨by decide +kernel, by decide +kernel⟩, List.mem_of_getElem? (i := 86) (by decide +kernel), List.mem_of_getElem? (i := 379) (by decide +kernel), List.mem_of_getElem? (i := 380) (by decide +kernel)⟩
theorem lw_p4 : lw_okq (⟨"GalleryRays$Text", "signAt", "(I)C"⟩, 6) := ⟨⟨by decide +kernel, by decide +kernel⟩, List.mem_of_getElem? (i := 86) (by decide +kernel), List.mem_of_getElem? (i := 393) (by decide +kernel), List.mem_of_getElem? (i := 394) (by decide +kernel)⟩
theorem lw_p5 : lw_okq (⟨"GalleryRays$Text", "take", "(C)V"⟩, 6) := ⟨⟨by decide +kernel, by decide +kernel⟩, List.mem_of_getElem? (i := 86) (by decide +kernel), List.mem_of_getElem? (i := 438) (by decide +kernel), List.mem_of_getElem? (i := 439) (by decide +kernel)⟩
theorem lw_p6 : lw_okq (⟨"GalleryRays$Text", "takeNumber", "(IIZ)I"⟩, 6) := ⟨⟨by decide +kernel, by decide +kernel⟩, List.mem_of_getElem? (i := 86) (by decide +kernel), List.mem_of_getElem? (i := 442) (by decide +kernel), List.mem_of_getElem? (i := 443) (by decide +kernel)⟩
theorem lw_p7 : lw_okq (⟨"GalleryRays$Shot", "begin", "(IIIJ)V"⟩, 6) := ⟨⟨by decide +kernel, by decide +kernel⟩, List.mem_of_getElem? (i := 116) (by decide +kernel), List.mem_of_getElem? (i := 505) (by decide +kernel), List.mem_of_getElem? (i := 506) (by decide +kernel)⟩
theorem lw_p8 : lw_okq (⟨"GalleryRays$Shot", "earliest", "()LGalleryRays$Ray;"⟩, 6) := ⟨⟨by decide +kernel, by decide +kernel⟩, List.mem_of_getElem? (i := 116) (by decide +kernel), List.mem_of_getElem? (i := 513) (by decide +kernel), List.mem_of_getElem? (i := 514) (by decide +kernel)⟩
theorem lw_p9 : lw_okq (⟨"GalleryRays$Shot", "meet", "(LGalleryRays$Wall;LGalleryRays$Ray;)V"⟩, 6) := ⟨⟨by decide +kernel, by decide +kernel⟩, List.mem_of_getElem? (i := 116) (by decide +kernel), List.mem_of_getElem? (i := 517) (by decide +kernel), List.mem_of_getElem? (i := 518) (by decide +kernel)⟩
theorem lw_p10 : lw_okq (⟨"GalleryRays$Shot", "act", "(LGalleryRays$Wall;ILGalleryRays$Ray;)V"⟩, 6) := ⟨⟨by decide +kernel, by decide +kernel⟩, List.mem_of_getElem? (i := 116) (by decide +kernel), List.mem_of_getElem? (i := 546) (by decide +kernel), List.mem_of_getElem? (i := 547) (by decide +kernel)⟩
theorem lw_p11 : lw_okq (⟨"GalleryRays$Shot", "split", "(LGalleryRays$Ray;II)V"⟩, 6) := ⟨⟨by decide +kernel, by decide +kernel⟩, List.mem_of_getElem? (i := 116) (by decide +kernel), List.mem_of_getElem? (i := 558) (by decide +kernel), List.mem_of_getElem? (i := 559) (by decide +kernel)⟩
theorem lw_p12 : lw_okq (⟨"GalleryRaysModel", "act", "()V"⟩, 27) := ⟨⟨by decide +kernel, by decide +kernel⟩, List.mem_of_getElem? (i := 726) (by decide +kernel), List.mem_of_getElem? (i := 827) (by decide +kernel), List.mem_of_getElem? (i := 828) (by decide +kernel)⟩
theorem lw_p13 : lw_okq (⟨"GalleryRaysModel", "adds", "(IIII)V"⟩, 27) := ⟨⟨by decide +kernel, by decide +kernel⟩, List.mem_of_getElem? (i := 726) (by decide +kernel), List.mem_of_getElem? (i := 831) (by decide +kernel), List.mem_of_getElem? (i := 832) (by decide +kernel)⟩
theorem lw_p14 : lw_okq (⟨"GalleryRaysModel", "isPart", "(I)Z"⟩, 27) := ⟨⟨by decide +kernel, by decide +kernel⟩, List.mem_of_getElem? (i := 726) (by decide +kernel), List.mem_of_getElem? (i := 839) (by decide +kernel), List.mem_of_getElem? (i := 840) (by decide +kernel)⟩
theorem lw_p15 : lw_okq (⟨"GalleryRaysModel", "sets", "(II)I"⟩, 27) := ⟨⟨by decide +kernel, by decide +kernel⟩, List.mem_of_getElem? (i := 726) (by decide +kernel), List.mem_of_getElem? (i := 855) (by decide +kernel), List.mem_of_getElem? (i := 856) (by decide +kernel)⟩
def lw_privs_1 : List (MethodName × Nat) := [(⟨"GalleryRays$History", "dropOldest", "()V"⟩, 2), (⟨"GalleryRays$Text", "readOne", "()V"⟩, 6), (⟨"GalleryRays$Text", "takeWord", "()I"⟩, 6), (⟨"GalleryRays$Text", "sameSigns", "(Ljava/lang/String;)I"⟩, 6), (⟨"GalleryRays$Text", "signAt", "(I)C"⟩, 6), (⟨"GalleryRays$Text", "take", "(C)V"⟩, 6), (⟨"GalleryRays$Text", "takeNumber", "(IIZ)I"⟩, 6), (⟨"GalleryRays$Shot", "begin", "(IIIJ)V"⟩, 6), (⟨"GalleryRays$Shot", "earliest", "()LGalleryRays$Ray;"⟩, 6), (⟨"GalleryRays$Shot", "meet", "(LGalleryRays$Wall;LGalleryRays$Ray;)V"⟩, 6), (⟨"GalleryRays$Shot", "act", "(LGalleryRays$Wall;ILGalleryRays$Ray;)V"⟩, 6), (⟨"GalleryRays$Shot", "split", "(LGalleryRays$Ray;II)V"⟩, 6), (⟨"GalleryRaysModel", "act", "()V"⟩, 27), (⟨"GalleryRaysModel", "adds", "(IIII)V"⟩, 27), (⟨"GalleryRaysModel", "isPart", "(I)Z"⟩, 27), (⟨"GalleryRaysModel", "sets", "(II)I"⟩, 27)]
theorem lw_r1 : ∀ q ∈ lw_privs_1, lw_okq q := List.forall_mem_cons.mpr ⟨lw_p0, List.forall_mem_cons.mpr ⟨lw_p1, List.forall_mem_cons.mpr ⟨lw_p2, List.forall_mem_cons.mpr ⟨lw_p3, List.forall_mem_cons.mpr ⟨lw_p4, List.forall_mem_cons.mpr ⟨lw_p5, List.forall_mem_cons.mpr ⟨lw_p6, List.forall_mem_cons.mpr ⟨lw_p7, List.forall_mem_cons.mpr ⟨lw_p8, List.forall_mem_cons.mpr ⟨lw_p9, List.forall_mem_cons.mpr ⟨lw_p10, List.forall_mem_cons.mpr ⟨lw_p11, List.forall_mem_cons.mpr ⟨lw_p12, List.forall_mem_cons.mpr ⟨lw_p13, List.forall_mem_cons.mpr ⟨lw_p14, List.forall_mem_cons.mpr ⟨lw_p15, fun _ h => absurd h List.not_mem_nil⟩⟩⟩⟩⟩⟩⟩⟩⟩⟩⟩⟩⟩⟩⟩⟩
theorem lw_p16 : lw_okq (⟨"GalleryRaysModel", "wrongAt", "()I"⟩, 27) := ⟨⟨by decide +kernel, by decide +kernel⟩, List.mem_of_getElem? (i := 726) (by decide +kernel), List.mem_of_getElem? (i := 876) (by decide +kernel), List.mem_of_getElem? (i := 877) (by decide +kernel)⟩
theorem lw_p17 : lw_okq (⟨"GalleryRaysModel", "readsPart", "()Z"⟩, 27) := ⟨⟨by decide +kernel, by decide +kernel⟩, List.mem_of_getElem? (i := 726) (by decide +kernel), List.mem_of_getElem? (i := 880) (by decide +kernel), List.mem_of_getElem? (i := 881) (by decide +kernel)⟩
theorem lw_p18 : lw_okq (⟨"GalleryRaysModel", "word", "()Z"⟩, 27) := ⟨⟨by decide +kernel, by decide +kernel⟩, List.mem_of_getElem? (i := 726) (by decide +kernel), List.mem_of_getElem? (i := 884) (by decide +kernel), List.mem_of_getElem? (i := 885) (by decide +kernel)⟩
theorem lw_p19 : lw_okq (⟨"GalleryRaysModel", "takes", "(I)Z"⟩, 27) := ⟨⟨by decide +kernel, by decide +kernel⟩, List.mem_of_getElem? (i := 726) (by decide +kernel), List.mem_of_getElem? (i := 888) (by decide +kernel), List.mem_of_getElem? (i := 889) (by decide +kernel)⟩
theorem lw_p20 : lw_okq (⟨"GalleryRaysModel", "sign", "()I"⟩, 27) := ⟨⟨by decide +kernel, by decide +kernel⟩, List.mem_of_getElem? (i := 726) (by decide +kernel), List.mem_of_getElem? (i := 892) (by decide +kernel), List.mem_of_getElem? (i := 893) (by decide +kernel)⟩
theorem lw_p21 : lw_okq (⟨"GalleryRaysModel", "four", "(IIII)Z"⟩, 27) := ⟨⟨by decide +kernel, by decide +kernel⟩, List.mem_of_getElem? (i := 726) (by decide +kernel), List.mem_of_getElem? (i := 896) (by decide +kernel), List.mem_of_getElem? (i := 897) (by decide +kernel)⟩
theorem lw_p22 : lw_okq (⟨"GalleryRaysModel", "number", "(IIIZ)Z"⟩, 27) := ⟨⟨by decide +kernel, by decide +kernel⟩, List.mem_of_getElem? (i := 726) (by decide +kernel), List.mem_of_getElem? (i := 900) (by decide +kernel), List.mem_of_getElem? (i := 901) (by decide +kernel)⟩
theorem lw_p23 : lw_okq (⟨"GalleryRaysModel", "begins", "(IJII)V"⟩, 27) := ⟨⟨by decide +kernel, by decide +kernel⟩, List.mem_of_getElem? (i := 726) (by decide +kernel), List.mem_of_getElem? (i := 960) (by decide +kernel), List.mem_of_getElem? (i := 961) (by decide +kernel)⟩
theorem lw_p24 : lw_okq (⟨"GalleryRaysModel", "next", "()I"⟩, 27) := ⟨⟨by decide +kernel, by decide +kernel⟩, List.mem_of_getElem? (i := 726) (by decide +kernel), List.mem_of_getElem? (i := 964) (by decide +kernel), List.mem_of_getElem? (i := 965) (by decide +kernel)⟩
theorem lw_p25 : lw_okq (⟨"GalleryRaysModel", "goes", "(I)V"⟩, 27) := ⟨⟨by decide +kernel, by decide +kernel⟩, List.mem_of_getElem? (i := 726) (by decide +kernel), List.mem_of_getElem? (i := 968) (by decide +kernel), List.mem_of_getElem? (i := 969) (by decide +kernel)⟩
theorem lw_p26 : lw_okq (⟨"GalleryRaysModel", "covers", "(II)Z"⟩, 27) := ⟨⟨by decide +kernel, by decide +kernel⟩, List.mem_of_getElem? (i := 726) (by decide +kernel), List.mem_of_getElem? (i := 973) (by decide +kernel), List.mem_of_getElem? (i := 974) (by decide +kernel)⟩
theorem lw_p27 : lw_okq (⟨"GalleryRaysModel", "meets", "(II)V"⟩, 27) := ⟨⟨by decide +kernel, by decide +kernel⟩, List.mem_of_getElem? (i := 726) (by decide +kernel), List.mem_of_getElem? (i := 977) (by decide +kernel), List.mem_of_getElem? (i := 978) (by decide +kernel)⟩
theorem lw_p28 : lw_okq (⟨"GalleryRaysModel", "hears", "(II)V"⟩, 27) := ⟨⟨by decide +kernel, by decide +kernel⟩, List.mem_of_getElem? (i := 726) (by decide +kernel), List.mem_of_getElem? (i := 984) (by decide +kernel), List.mem_of_getElem? (i := 985) (by decide +kernel)⟩
theorem lw_p29 : lw_okq (⟨"GalleryRaysModel", "covered", "()I"⟩, 27) := ⟨⟨by decide +kernel, by decide +kernel⟩, List.mem_of_getElem? (i := 726) (by decide +kernel), List.mem_of_getElem? (i := 1005) (by decide +kernel), List.mem_of_getElem? (i := 1006) (by decide +kernel)⟩
theorem lw_p30 : lw_okq (⟨"GalleryRaysModel", "heardOf", "(II)J"⟩, 27) := ⟨⟨by decide +kernel, by decide +kernel⟩, List.mem_of_getElem? (i := 726) (by decide +kernel), List.mem_of_getElem? (i := 1018) (by decide +kernel), List.mem_of_getElem? (i := 1019) (by decide +kernel)⟩
theorem lw_p31 : lw_okq (⟨"GalleryRaysModel", "crosses", "(II)Z"⟩, 27) := ⟨⟨by decide +kernel, by decide +kernel⟩, List.mem_of_getElem? (i := 726) (by decide +kernel), List.mem_of_getElem? (i := 1035) (by decide +kernel), List.mem_of_getElem? (i := 1036) (by decide +kernel)⟩
def lw_privs_2 : List (MethodName × Nat) := [(⟨"GalleryRaysModel", "wrongAt", "()I"⟩, 27), (⟨"GalleryRaysModel", "readsPart", "()Z"⟩, 27), (⟨"GalleryRaysModel", "word", "()Z"⟩, 27), (⟨"GalleryRaysModel", "takes", "(I)Z"⟩, 27), (⟨"GalleryRaysModel", "sign", "()I"⟩, 27), (⟨"GalleryRaysModel", "four", "(IIII)Z"⟩, 27), (⟨"GalleryRaysModel", "number", "(IIIZ)Z"⟩, 27), (⟨"GalleryRaysModel", "begins", "(IJII)V"⟩, 27), (⟨"GalleryRaysModel", "next", "()I"⟩, 27), (⟨"GalleryRaysModel", "goes", "(I)V"⟩, 27), (⟨"GalleryRaysModel", "covers", "(II)Z"⟩, 27), (⟨"GalleryRaysModel", "meets", "(II)V"⟩, 27), (⟨"GalleryRaysModel", "hears", "(II)V"⟩, 27), (⟨"GalleryRaysModel", "covered", "()I"⟩, 27), (⟨"GalleryRaysModel", "heardOf", "(II)J"⟩, 27), (⟨"GalleryRaysModel", "crosses", "(II)Z"⟩, 27)]
theorem lw_r2 : ∀ q ∈ lw_privs_2, lw_okq q := List.forall_mem_cons.mpr ⟨lw_p16, List.forall_mem_cons.mpr ⟨lw_p17, List.forall_mem_cons.mpr ⟨lw_p18, List.forall_mem_cons.mpr ⟨lw_p19, List.forall_mem_cons.mpr ⟨lw_p20, List.forall_mem_cons.mpr ⟨lw_p21, List.forall_mem_cons.mpr ⟨lw_p22, List.forall_mem_cons.mpr ⟨lw_p23, List.forall_mem_cons.mpr ⟨lw_p24, List.forall_mem_cons.mpr ⟨lw_p25, List.forall_mem_cons.mpr ⟨lw_p26, List.forall_mem_cons.mpr ⟨lw_p27, List.forall_mem_cons.mpr ⟨lw_p28, List.forall_mem_cons.mpr ⟨lw_p29, List.forall_mem_cons.mpr ⟨lw_p30, List.forall_mem_cons.mpr ⟨lw_p31, fun _ h => absurd h List.not_mem_nil⟩⟩⟩⟩⟩⟩⟩⟩⟩⟩⟩⟩⟩⟩⟩⟩
def lw_privs : List (MethodName × Nat) := lw_privs_1 ++ (lw_privs_2)
def lw_tbl : List Cond := k2_sels lw_privs ++ tables_1
theorem lw_privs_ok : ∀ q ∈ lw_privs, lw_okq q := by
  show ∀ q ∈ lw_privs_1 ++ (lw_privs_2), lw_okq q
  exact List.forall_mem_append.mpr ⟨lw_r1, lw_r2⟩
/-- the streams that the claim lets the run draw from -/
abbrev lw_cs : List Choice := [Jvm.Choice.named "NaN.bits"]
theorem lw_bits : nanBits ∈ lw_cs := by first | decide | exact List.mem_cons_self | simp [lw_cs, nanBits]
-- ===== end of PART A; then your names; then what follows =====
end
section
/-! ===== BEGIN words of one list among another's, by their places ===== -/
theorem goodIn_r {big : List Cond} (ws : List Cond) (ps : List Nat) (hp : ws = ps.filterMap (fun i => big[i]?)) (h : ws.all goodWord = true) : GoodIn big ws := by
  intro w hw
  have h1 := List.all_eq_true.mp h w hw
  rw [hp] at hw
  obtain ⟨i, -, hi⟩ := List.mem_filterMap.mp hw
  have hm : w ∈ big := by first | exact List.mem_of_getElem? hi | exact List.getElem?_mem hi
  exact ⟨hm, good_of_word h1⟩
theorem goodIn_app {big a b : List Cond} (ha : GoodIn big a) (hb : GoodIn big b) : GoodIn big (a ++ b) := fun w h => (List.mem_append.mp h).elim (ha w) (hb w)
theorem goodIn_ca {big a b : List Cond} {c : Cond} (ha : GoodIn big (c :: a)) (hb : GoodIn big b) : GoodIn big (c :: (a ++ b)) := fun w h => (List.mem_cons.mp h).elim (fun e => ha w (List.mem_cons.mpr (Or.inl e))) (fun h => (List.mem_append.mp h).elim (fun h => ha w (List.mem_cons.mpr (Or.inr h))) (hb w))
theorem goodIn_sub {big ws : List Cond} (hm : ∀ w ∈ ws, w ∈ big) (h : ws.all goodWord = true) : GoodIn big ws := fun w hw => ⟨hm w hw, good_of_word (List.all_eq_true.mp h w hw)⟩
/-! ===== END ===== -/

/-! ===== BEGIN printed: names, fields, word lists, decode rows ===== -/
def RX0 : String := "GalleryRays$Circle"
def TX0 : u_T := fun k => match k with
  | _ => ("", "", "", false)
def tyX0 : Nat → FieldType := fun k => match k with
  | _ => .int
abbrev wsX00 : List Cond := u_ws RX0 TX0 0
theorem nmX0 : ∀ a, a < 0 → ∀ b, b < 0 → a ≠ b → (TX0 a).2.1 ≠ (TX0 b).2.1 := by decide +kernel
theorem tyX0_ok : ∀ k, k < 0 → parseFieldDescriptor (TX0 k).2.2.1 = some (tyX0 k) := by decide +kernel
abbrev cX0_isPlace : ByteArray := prog_2_method_2_code
def yX0_isPlace : MethodName := ⟨RX0, "isPlace", "(I)Z"⟩
abbrev cX0_isStep : ByteArray := prog_2_method_3_code
def yX0_isStep : MethodName := ⟨RX0, "isStep", "(I)Z"⟩
abbrev cX0_placeAfter : ByteArray := prog_2_method_4_code
def yX0_placeAfter : MethodName := ⟨RX0, "placeAfter", "(II)I"⟩
abbrev cX0_sine : ByteArray := prog_2_method_5_code
def yX0_sine : MethodName := ⟨RX0, "sine", "(II)I"⟩
abbrev cX0_chordTime : ByteArray := prog_2_method_6_code
def yX0_chordTime : MethodName := ⟨RX0, "chordTime", "(I)I"⟩
abbrev cX0_causticRadius : ByteArray := prog_2_method_7_code
def yX0_causticRadius : MethodName := ⟨RX0, "causticRadius", "(I)I"⟩
abbrev cX0_sharedDivisor : ByteArray := prog_2_method_8_code
def yX0_sharedDivisor : MethodName := ⟨RX0, "sharedDivisor", "(I)I"⟩
abbrev cX0_tilted : ByteArray := prog_2_method_9_code
def yX0_tilted : MethodName := ⟨RX0, "tilted", "(II)I"⟩
abbrev cX0_smallestStep : ByteArray := prog_2_method_10_code
def yX0_smallestStep : MethodName := ⟨RX0, "smallestStep", "(II)I"⟩
abbrev cX0_isBetter : ByteArray := prog_2_method_11_code
def yX0_isBetter : MethodName := ⟨RX0, "isBetter", "(II)Z"⟩
def RX1 : String := "GalleryRays$Ears"
def TX1 : u_T := fun k => match k with
  | _ => ("GalleryRays$Ears", "numbers", "[J", true)
def tyX1 : Nat → FieldType := fun k => match k with
  | _ => .array .long
abbrev wsX10 : List Cond := u_ws RX1 TX1 1
theorem nmX1 : ∀ a, a < 1 → ∀ b, b < 1 → a ≠ b → (TX1 a).2.1 ≠ (TX1 b).2.1 := by decide +kernel
theorem tyX1_ok : ∀ k, k < 1 → parseFieldDescriptor (TX1 k).2.2.1 = some (tyX1 k) := by decide +kernel
abbrev cX1_init : ByteArray := prog_3_method_1_code
def yX1_init : MethodName := ⟨RX1, "<init>", "()V"⟩
abbrev cX1_forget : ByteArray := prog_3_method_2_code
def yX1_forget : MethodName := ⟨RX1, "forget", "()V"⟩
abbrev cX1_hear : ByteArray := prog_3_method_3_code
def yX1_hear : MethodName := ⟨RX1, "hear", "(ILGalleryRays$Ray;)V"⟩
abbrev cX1_numberOf : ByteArray := prog_3_method_4_code
def yX1_numberOf : MethodName := ⟨RX1, "numberOf", "(II)J"⟩
def RX2 : String := "GalleryRays$History"
def TX2 : u_T := fun k => match k with
  | 0 => ("GalleryRays$History", "states", "[LGalleryRays$Wall;", true)
  | _ => ("GalleryRays$History", "count", "I", false)
def tyX2 : Nat → FieldType := fun k => match k with
  | 0 => .array (.object "GalleryRays$Wall")
  | _ => .int
abbrev wsX20 : List Cond := u_ws RX2 TX2 2
theorem nmX2 : ∀ a, a < 2 → ∀ b, b < 2 → a ≠ b → (TX2 a).2.1 ≠ (TX2 b).2.1 := by decide +kernel
theorem tyX2_ok : ∀ k, k < 2 → parseFieldDescriptor (TX2 k).2.2.1 = some (tyX2 k) := by decide +kernel
abbrev cX2_init : ByteArray := prog_4_method_1_code
def yX2_init : MethodName := ⟨RX2, "<init>", "()V"⟩
abbrev cX2_keep : ByteArray := prog_4_method_2_code
def yX2_keep : MethodName := ⟨RX2, "keep", "(LGalleryRays$Wall;)V"⟩
abbrev cX2_dropOldest : ByteArray := prog_4_method_3_code
def yX2_dropOldest : MethodName := ⟨RX2, "dropOldest", "()V"⟩
abbrev cX2_restore : ByteArray := prog_4_method_4_code
def yX2_restore : MethodName := ⟨RX2, "restore", "(LGalleryRays$Wall;)V"⟩
def RX3 : String := "GalleryRays$HitLog"
def TX3 : u_T := fun k => match k with
  | 0 => ("GalleryRays$HitLog", "numbers", "[J", true)
  | 1 => ("GalleryRays$HitLog", "echoes", "[I", true)
  | 2 => ("GalleryRays$HitLog", "count", "I", false)
  | 3 => ("GalleryRays$HitLog", "echoCount", "I", false)
  | _ => ("GalleryRays$HitLog", "energySum", "J", false)
def tyX3 : Nat → FieldType := fun k => match k with
  | 0 => .array .long
  | 1 => .array .int
  | 2 => .int
  | 3 => .int
  | _ => .long
abbrev wsX30 : List Cond := u_ws RX3 TX3 5
theorem nmX3 : ∀ a, a < 5 → ∀ b, b < 5 → a ≠ b → (TX3 a).2.1 ≠ (TX3 b).2.1 := by decide +kernel
theorem tyX3_ok : ∀ k, k < 5 → parseFieldDescriptor (TX3 k).2.2.1 = some (tyX3 k) := by decide +kernel
abbrev cX3_init : ByteArray := prog_5_method_1_code
def yX3_init : MethodName := ⟨RX3, "<init>", "()V"⟩
abbrev cX3_forget : ByteArray := prog_5_method_2_code
def yX3_forget : MethodName := ⟨RX3, "forget", "()V"⟩
abbrev cX3_note : ByteArray := prog_5_method_3_code
def yX3_note : MethodName := ⟨RX3, "note", "(LGalleryRays$Ray;)V"⟩
abbrev cX3_noteEcho : ByteArray := prog_5_method_4_code
def yX3_noteEcho : MethodName := ⟨RX3, "noteEcho", "()V"⟩
abbrev cX3_numberOf : ByteArray := prog_5_method_5_code
def yX3_numberOf : MethodName := ⟨RX3, "numberOf", "(II)J"⟩
abbrev cX3_echoAt : ByteArray := prog_5_method_6_code
def yX3_echoAt : MethodName := ⟨RX3, "echoAt", "(I)I"⟩
abbrev cX3_meanEnergy : ByteArray := prog_5_method_7_code
def yX3_meanEnergy : MethodName := ⟨RX3, "meanEnergy", "()F"⟩
def RX4 : String := "GalleryRays$Parts"
def TX4 : u_T := fun k => match k with
  | 0 => ("GalleryRays$Parts", "numbers", "[I", true)
  | _ => ("GalleryRays$Parts", "count", "I", false)
def tyX4 : Nat → FieldType := fun k => match k with
  | 0 => .array .int
  | _ => .int
abbrev wsX40 : List Cond := u_ws RX4 TX4 2
theorem nmX4 : ∀ a, a < 2 → ∀ b, b < 2 → a ≠ b → (TX4 a).2.1 ≠ (TX4 b).2.1 := by decide +kernel
theorem tyX4_ok : ∀ k, k < 2 → parseFieldDescriptor (TX4 k).2.2.1 = some (tyX4 k) := by decide +kernel
abbrev cX4_init : ByteArray := prog_6_method_1_code
def yX4_init : MethodName := ⟨RX4, "<init>", "()V"⟩
abbrev cX4_isAllowed : ByteArray := prog_6_method_2_code
def yX4_isAllowed : MethodName := ⟨RX4, "isAllowed", "(IIII)Z"⟩
abbrev cX4_leastBy : ByteArray := prog_6_method_3_code
def yX4_leastBy : MethodName := ⟨RX4, "leastBy", "(I)I"⟩
abbrev cX4_mostBy : ByteArray := prog_6_method_4_code
def yX4_mostBy : MethodName := ⟨RX4, "mostBy", "(I)I"⟩
abbrev cX4_mayBeNegative : ByteArray := prog_6_method_5_code
def yX4_mayBeNegative : MethodName := ⟨RX4, "mayBeNegative", "(I)Z"⟩
abbrev cX4_hasBy : ByteArray := prog_6_method_6_code
def yX4_hasBy : MethodName := ⟨RX4, "hasBy", "(I)Z"⟩
abbrev cX4_word : ByteArray := prog_6_method_7_code
def yX4_word : MethodName := ⟨RX4, "word", "(I)Ljava/lang/String;"⟩
abbrev cX4_has : ByteArray := prog_6_method_8_code
def yX4_has : MethodName := ⟨RX4, "has", "(I)Z"⟩
abbrev cX4_numberOf : ByteArray := prog_6_method_9_code
def yX4_numberOf : MethodName := ⟨RX4, "numberOf", "(II)I"⟩
abbrev cX4_covers : ByteArray := prog_6_method_10_code
def yX4_covers : MethodName := ⟨RX4, "covers", "(II)Z"⟩
abbrev cX4_append : ByteArray := prog_6_method_11_code
def yX4_append : MethodName := ⟨RX4, "append", "(IIII)V"⟩
abbrev cX4_appendAll : ByteArray := prog_6_method_12_code
def yX4_appendAll : MethodName := ⟨RX4, "appendAll", "(LGalleryRays$Parts;)V"⟩
abbrev cX4_takeOut : ByteArray := prog_6_method_13_code
def yX4_takeOut : MethodName := ⟨RX4, "takeOut", "(I)V"⟩
abbrev cX4_copyFrom : ByteArray := prog_6_method_14_code
def yX4_copyFrom : MethodName := ⟨RX4, "copyFrom", "(LGalleryRays$Parts;)V"⟩
def RX5 : String := "GalleryRays$Path"
def TX5 : u_T := fun k => match k with
  | 0 => ("GalleryRays$Path", "corners", "[I", true)
  | _ => ("GalleryRays$Path", "count", "I", false)
def tyX5 : Nat → FieldType := fun k => match k with
  | 0 => .array .int
  | _ => .int
abbrev wsX50 : List Cond := u_ws RX5 TX5 2
theorem nmX5 : ∀ a, a < 2 → ∀ b, b < 2 → a ≠ b → (TX5 a).2.1 ≠ (TX5 b).2.1 := by decide +kernel
theorem tyX5_ok : ∀ k, k < 2 → parseFieldDescriptor (TX5 k).2.2.1 = some (tyX5 k) := by decide +kernel
abbrev cX5_init : ByteArray := prog_7_method_1_code
def yX5_init : MethodName := ⟨RX5, "<init>", "()V"⟩
abbrev cX5_startAt : ByteArray := prog_7_method_2_code
def yX5_startAt : MethodName := ⟨RX5, "startAt", "(I)V"⟩
abbrev cX5_goTo : ByteArray := prog_7_method_3_code
def yX5_goTo : MethodName := ⟨RX5, "goTo", "(I)V"⟩
abbrev cX5_crossingPairs : ByteArray := prog_7_method_4_code
def yX5_crossingPairs : MethodName := ⟨RX5, "crossingPairs", "(I)I"⟩
abbrev cX5_cross : ByteArray := prog_7_method_5_code
def yX5_cross : MethodName := ⟨RX5, "cross", "(IIII)Z"⟩
abbrev cX5_isBetween : ByteArray := prog_7_method_6_code
def yX5_isBetween : MethodName := ⟨RX5, "isBetween", "(III)Z"⟩
abbrev cX5_isBeyond : ByteArray := prog_7_method_7_code
def yX5_isBeyond : MethodName := ⟨RX5, "isBeyond", "(III)Z"⟩
def RX6 : String := "GalleryRays$PlaceMarks"
def TX6 : u_T := fun k => match k with
  | 0 => ("GalleryRays$PlaceMarks", "words", "[J", true)
  | _ => ("GalleryRays$PlaceMarks", "count", "I", false)
def tyX6 : Nat → FieldType := fun k => match k with
  | 0 => .array .long
  | _ => .int
abbrev wsX60 : List Cond := u_ws RX6 TX6 2
theorem nmX6 : ∀ a, a < 2 → ∀ b, b < 2 → a ≠ b → (TX6 a).2.1 ≠ (TX6 b).2.1 := by decide +kernel
theorem tyX6_ok : ∀ k, k < 2 → parseFieldDescriptor (TX6 k).2.2.1 = some (tyX6 k) := by decide +kernel
abbrev cX6_init : ByteArray := prog_8_method_1_code
def yX6_init : MethodName := ⟨RX6, "<init>", "()V"⟩
abbrev cX6_forget : ByteArray := prog_8_method_2_code
def yX6_forget : MethodName := ⟨RX6, "forget", "()V"⟩
abbrev cX6_mark : ByteArray := prog_8_method_3_code
def yX6_mark : MethodName := ⟨RX6, "mark", "(I)V"⟩
abbrev cX6_lowestBit : ByteArray := prog_8_method_4_code
def yX6_lowestBit : MethodName := ⟨RX6, "lowestBit", "(J)I"⟩
abbrev cX6_longestGap : ByteArray := prog_8_method_5_code
def yX6_longestGap : MethodName := ⟨RX6, "longestGap", "()I"⟩
def RX7 : String := "GalleryRays$Ray"
def TX7 : u_T := fun k => match k with
  | 0 => ("GalleryRays$Ray", "number", "I", true)
  | 1 => ("GalleryRays$Ray", "place", "I", false)
  | 2 => ("GalleryRays$Ray", "step", "I", false)
  | 3 => ("GalleryRays$Ray", "energy", "I", false)
  | 4 => ("GalleryRays$Ray", "arrival", "J", false)
  | _ => ("GalleryRays$Ray", "going", "Z", false)
def tyX7 : Nat → FieldType := fun k => match k with
  | 0 => .int
  | 1 => .int
  | 2 => .int
  | 3 => .int
  | 4 => .long
  | _ => .boolean
abbrev wsX70 : List Cond := u_ws RX7 TX7 6
theorem nmX7 : ∀ a, a < 6 → ∀ b, b < 6 → a ≠ b → (TX7 a).2.1 ≠ (TX7 b).2.1 := by decide +kernel
theorem tyX7_ok : ∀ k, k < 6 → parseFieldDescriptor (TX7 k).2.2.1 = some (tyX7 k) := by decide +kernel
abbrev cX7_init : ByteArray := prog_9_method_1_code
def yX7_init : MethodName := ⟨RX7, "<init>", "(I)V"⟩
abbrev cX7_start : ByteArray := prog_9_method_2_code
def yX7_start : MethodName := ⟨RX7, "start", "(IIIJ)V"⟩
abbrev cX7_lose : ByteArray := prog_9_method_3_code
def yX7_lose : MethodName := ⟨RX7, "lose", "(I)V"⟩
abbrev cX7_tilt : ByteArray := prog_9_method_4_code
def yX7_tilt : MethodName := ⟨RX7, "tilt", "(I)V"⟩
def RX8 : String := "GalleryRays$Shot"
def TX8 : u_T := fun k => match k with
  | 0 => ("GalleryRays$Shot", "rays", "[LGalleryRays$Ray;", true)
  | 1 => ("GalleryRays$Shot", "log", "LGalleryRays$HitLog;", true)
  | 2 => ("GalleryRays$Shot", "marks", "LGalleryRays$PlaceMarks;", true)
  | 3 => ("GalleryRays$Shot", "ears", "LGalleryRays$Ears;", true)
  | 4 => ("GalleryRays$Shot", "path", "LGalleryRays$Path;", true)
  | _ => ("GalleryRays$Shot", "rayCount", "I", false)
def tyX8 : Nat → FieldType := fun k => match k with
  | 0 => .array (.object "GalleryRays$Ray")
  | 1 => .object "GalleryRays$HitLog"
  | 2 => .object "GalleryRays$PlaceMarks"
  | 3 => .object "GalleryRays$Ears"
  | 4 => .object "GalleryRays$Path"
  | _ => .int
abbrev wsX80 : List Cond := u_ws RX8 TX8 6
theorem nmX8 : ∀ a, a < 6 → ∀ b, b < 6 → a ≠ b → (TX8 a).2.1 ≠ (TX8 b).2.1 := by decide +kernel
theorem tyX8_ok : ∀ k, k < 6 → parseFieldDescriptor (TX8 k).2.2.1 = some (tyX8 k) := by decide +kernel
abbrev cX8_init : ByteArray := prog_10_method_1_code
def yX8_init : MethodName := ⟨RX8, "<init>", "()V"⟩
abbrev cX8_run : ByteArray := prog_10_method_2_code
def yX8_run : MethodName := ⟨RX8, "run", "(LGalleryRays$Wall;III)V"⟩
abbrev cX8_begin : ByteArray := prog_10_method_3_code
def yX8_begin : MethodName := ⟨RX8, "begin", "(IIIJ)V"⟩
abbrev cX8_earliest : ByteArray := prog_10_method_4_code
def yX8_earliest : MethodName := ⟨RX8, "earliest", "()LGalleryRays$Ray;"⟩
abbrev cX8_meet : ByteArray := prog_10_method_5_code
def yX8_meet : MethodName := ⟨RX8, "meet", "(LGalleryRays$Wall;LGalleryRays$Ray;)V"⟩
abbrev cX8_act : ByteArray := prog_10_method_6_code
def yX8_act : MethodName := ⟨RX8, "act", "(LGalleryRays$Wall;ILGalleryRays$Ray;)V"⟩
abbrev cX8_split : ByteArray := prog_10_method_7_code
def yX8_split : MethodName := ⟨RX8, "split", "(LGalleryRays$Ray;II)V"⟩
def RX9 : String := "GalleryRays$Text"
def TX9 : u_T := fun k => match k with
  | 0 => ("GalleryRays$Text", "signs", "[C", true)
  | 1 => ("GalleryRays$Text", "found", "LGalleryRays$Parts;", true)
  | 2 => ("GalleryRays$Text", "length", "I", false)
  | 3 => ("GalleryRays$Text", "at", "I", false)
  | 4 => ("GalleryRays$Text", "broken", "Z", false)
  | _ => ("GalleryRays$Text", "outOfRange", "I", false)
def tyX9 : Nat → FieldType := fun k => match k with
  | 0 => .array .char
  | 1 => .object "GalleryRays$Parts"
  | 2 => .int
  | 3 => .int
  | 4 => .boolean
  | _ => .int
abbrev wsX90 : List Cond := u_ws RX9 TX9 6
theorem nmX9 : ∀ a, a < 6 → ∀ b, b < 6 → a ≠ b → (TX9 a).2.1 ≠ (TX9 b).2.1 := by decide +kernel
theorem tyX9_ok : ∀ k, k < 6 → parseFieldDescriptor (TX9 k).2.2.1 = some (tyX9 k) := by decide +kernel
abbrev cX9_init : ByteArray := prog_11_method_1_code
def yX9_init : MethodName := ⟨RX9, "<init>", "()V"⟩
abbrev cX9_append : ByteArray := prog_11_method_2_code
def yX9_append : MethodName := ⟨RX9, "append", "(C)V"⟩
abbrev cX9_signAt : ByteArray := prog_11_method_3_code
def yX9_signAt : MethodName := ⟨RX9, "signAt", "(I)C"⟩
abbrev cX9_errorPlace : ByteArray := prog_11_method_4_code
def yX9_errorPlace : MethodName := ⟨RX9, "errorPlace", "()I"⟩
abbrev cX9_readOne : ByteArray := prog_11_method_5_code
def yX9_readOne : MethodName := ⟨RX9, "readOne", "()V"⟩
abbrev cX9_take : ByteArray := prog_11_method_6_code
def yX9_take : MethodName := ⟨RX9, "take", "(C)V"⟩
abbrev cX9_takeWord : ByteArray := prog_11_method_7_code
def yX9_takeWord : MethodName := ⟨RX9, "takeWord", "()I"⟩
abbrev cX9_sameSigns : ByteArray := prog_11_method_8_code
def yX9_sameSigns : MethodName := ⟨RX9, "sameSigns", "(Ljava/lang/String;)I"⟩
abbrev cX9_takeNumber : ByteArray := prog_11_method_9_code
def yX9_takeNumber : MethodName := ⟨RX9, "takeNumber", "(IIZ)I"⟩
abbrev cX9_isDigit : ByteArray := prog_11_method_10_code
def yX9_isDigit : MethodName := ⟨RX9, "isDigit", "(C)Z"⟩
def RX10 : String := "GalleryRays$Wall"
def TX10 : u_T := fun k => match k with
  | 0 => ("GalleryRays$Wall", "parts", "LGalleryRays$Parts;", true)
  | 1 => ("GalleryRays$Wall", "loss", "I", false)
  | _ => ("GalleryRays$Wall", "threshold", "I", false)
def tyX10 : Nat → FieldType := fun k => match k with
  | 0 => .object "GalleryRays$Parts"
  | 1 => .int
  | _ => .int
abbrev wsX100 : List Cond := u_ws RX10 TX10 3
theorem nmX10 : ∀ a, a < 3 → ∀ b, b < 3 → a ≠ b → (TX10 a).2.1 ≠ (TX10 b).2.1 := by decide +kernel
theorem tyX10_ok : ∀ k, k < 3 → parseFieldDescriptor (TX10 k).2.2.1 = some (tyX10 k) := by decide +kernel
abbrev cX10_init : ByteArray := prog_12_method_1_code
def yX10_init : MethodName := ⟨RX10, "<init>", "()V"⟩
abbrev cX10_copyFrom : ByteArray := prog_12_method_2_code
def yX10_copyFrom : MethodName := ⟨RX10, "copyFrom", "(LGalleryRays$Wall;)V"⟩
def RX11 : String := "GalleryRays"
def TX11 : u_T := fun k => match k with
  | 0 => ("GalleryRays", "wall", "LGalleryRays$Wall;", true)
  | 1 => ("GalleryRays", "history", "LGalleryRays$History;", true)
  | 2 => ("GalleryRays", "text", "LGalleryRays$Text;", true)
  | _ => ("GalleryRays", "shot", "LGalleryRays$Shot;", true)
def tyX11 : Nat → FieldType := fun k => match k with
  | 0 => .object "GalleryRays$Wall"
  | 1 => .object "GalleryRays$History"
  | 2 => .object "GalleryRays$Text"
  | _ => .object "GalleryRays$Shot"
abbrev wsX110 : List Cond := u_ws RX11 TX11 4
theorem nmX11 : ∀ a, a < 4 → ∀ b, b < 4 → a ≠ b → (TX11 a).2.1 ≠ (TX11 b).2.1 := by decide +kernel
theorem tyX11_ok : ∀ k, k < 4 → parseFieldDescriptor (TX11 k).2.2.1 = some (tyX11 k) := by decide +kernel
abbrev cX11_init : ByteArray := prog_1_method_1_code
def yX11_init : MethodName := ⟨RX11, "<init>", "()V"⟩
abbrev cX11_add : ByteArray := prog_1_method_2_code
def yX11_add : MethodName := ⟨RX11, "add", "(IIII)I"⟩
abbrev cX11_remove : ByteArray := prog_1_method_3_code
def yX11_remove : MethodName := ⟨RX11, "remove", "(I)I"⟩
abbrev cX11_part : ByteArray := prog_1_method_4_code
def yX11_part : MethodName := ⟨RX11, "part", "(II)I"⟩
abbrev cX11_parts : ByteArray := prog_1_method_5_code
def yX11_parts : MethodName := ⟨RX11, "parts", "()I"⟩
abbrev cX11_setLoss : ByteArray := prog_1_method_6_code
def yX11_setLoss : MethodName := ⟨RX11, "setLoss", "(I)I"⟩
abbrev cX11_setThreshold : ByteArray := prog_1_method_7_code
def yX11_setThreshold : MethodName := ⟨RX11, "setThreshold", "(I)I"⟩
abbrev cX11_type : ByteArray := prog_1_method_8_code
def yX11_type : MethodName := ⟨RX11, "type", "(I)I"⟩
abbrev cX11_clear : ByteArray := prog_1_method_9_code
def yX11_clear : MethodName := ⟨RX11, "clear", "()I"⟩
abbrev cX11_read : ByteArray := prog_1_method_10_code
def yX11_read : MethodName := ⟨RX11, "read", "()I"⟩
abbrev cX11_shoot : ByteArray := prog_1_method_11_code
def yX11_shoot : MethodName := ⟨RX11, "shoot", "(III)I"⟩
abbrev cX11_hits : ByteArray := prog_1_method_12_code
def yX11_hits : MethodName := ⟨RX11, "hits", "()I"⟩
abbrev cX11_hit : ByteArray := prog_1_method_13_code
def yX11_hit : MethodName := ⟨RX11, "hit", "(II)J"⟩
abbrev cX11_rays : ByteArray := prog_1_method_14_code
def yX11_rays : MethodName := ⟨RX11, "rays", "()I"⟩
abbrev cX11_coverage : ByteArray := prog_1_method_15_code
def yX11_coverage : MethodName := ⟨RX11, "coverage", "()I"⟩
abbrev cX11_gap : ByteArray := prog_1_method_16_code
def yX11_gap : MethodName := ⟨RX11, "gap", "()I"⟩
abbrev cX11_heard : ByteArray := prog_1_method_17_code
def yX11_heard : MethodName := ⟨RX11, "heard", "(II)J"⟩
abbrev cX11_echo : ByteArray := prog_1_method_18_code
def yX11_echo : MethodName := ⟨RX11, "echo", "(I)I"⟩
abbrev cX11_mean : ByteArray := prog_1_method_19_code
def yX11_mean : MethodName := ⟨RX11, "mean", "()F"⟩
abbrev cX11_crossings : ByteArray := prog_1_method_20_code
def yX11_crossings : MethodName := ⟨RX11, "crossings", "(I)I"⟩
abbrev cX11_time : ByteArray := prog_1_method_21_code
def yX11_time : MethodName := ⟨RX11, "time", "(I)I"⟩
abbrev cX11_caustic : ByteArray := prog_1_method_22_code
def yX11_caustic : MethodName := ⟨RX11, "caustic", "(I)I"⟩
abbrev cX11_order : ByteArray := prog_1_method_23_code
def yX11_order : MethodName := ⟨RX11, "order", "(I)I"⟩
abbrev cX11_turns : ByteArray := prog_1_method_24_code
def yX11_turns : MethodName := ⟨RX11, "turns", "(I)I"⟩
abbrev cX11_aim : ByteArray := prog_1_method_25_code
def yX11_aim : MethodName := ⟨RX11, "aim", "(III)I"⟩
abbrev cX11_widest : ByteArray := prog_1_method_26_code
def yX11_widest : MethodName := ⟨RX11, "widest", "(I)I"⟩
abbrev cX11_undo : ByteArray := prog_1_method_27_code
def yX11_undo : MethodName := ⟨RX11, "undo", "()I"⟩
abbrev cX11_fingerprint : ByteArray := prog_1_method_28_code
def yX11_fingerprint : MethodName := ⟨RX11, "fingerprint", "()J"⟩
abbrev cX11_mixed : ByteArray := prog_1_method_29_code
def yX11_mixed : MethodName := ⟨RX11, "mixed", "(JJ)J"⟩
def RX12 : String := "GalleryRaysModel"
def TX12 : u_T := fun k => match k with
  | 0 => ("GalleryRaysModel", "v", "[I", true)
  | 1 => ("GalleryRaysModel", "past", "[I", true)
  | 2 => ("GalleryRaysModel", "pastMany", "I", false)
  | 3 => ("GalleryRaysModel", "text", "[I", true)
  | 4 => ("GalleryRaysModel", "typed", "I", false)
  | 5 => ("GalleryRaysModel", "at", "I", false)
  | 6 => ("GalleryRaysModel", "found", "I", false)
  | 7 => ("GalleryRaysModel", "wrong", "I", false)
  | 8 => ("GalleryRaysModel", "kinds", "[I", true)
  | 9 => ("GalleryRaysModel", "numbers", "[I", true)
  | 10 => ("GalleryRaysModel", "rayPlace", "[I", true)
  | 11 => ("GalleryRaysModel", "rayTime", "[J", true)
  | 12 => ("GalleryRaysModel", "rayEnergy", "[I", true)
  | 13 => ("GalleryRaysModel", "rayStep", "[I", true)
  | 14 => ("GalleryRaysModel", "isLive", "[Z", true)
  | 15 => ("GalleryRaysModel", "rayMany", "I", false)
  | 16 => ("GalleryRaysModel", "hits", "[J", true)
  | 17 => ("GalleryRaysModel", "isEcho", "[Z", true)
  | 18 => ("GalleryRaysModel", "hitMany", "I", false)
  | 19 => ("GalleryRaysModel", "heardMany", "[I", true)
  | 20 => ("GalleryRaysModel", "heardSum", "[J", true)
  | 21 => ("GalleryRaysModel", "heardFirst", "[J", true)
  | 22 => ("GalleryRaysModel", "heardMost", "[I", true)
  | 23 => ("GalleryRaysModel", "shots", "I", false)
  | 24 => ("GalleryRaysModel", "begin", "I", false)
  | 25 => ("GalleryRaysModel", "isHit", "[Z", true)
  | _ => ("GalleryRaysModel", "ends", "[I", true)
def tyX12 : Nat → FieldType := fun k => match k with
  | 0 => .array .int
  | 1 => .array .int
  | 2 => .int
  | 3 => .array .int
  | 4 => .int
  | 5 => .int
  | 6 => .int
  | 7 => .int
  | 8 => .array .int
  | 9 => .array .int
  | 10 => .array .int
  | 11 => .array .long
  | 12 => .array .int
  | 13 => .array .int
  | 14 => .array .boolean
  | 15 => .int
  | 16 => .array .long
  | 17 => .array .boolean
  | 18 => .int
  | 19 => .array .int
  | 20 => .array .long
  | 21 => .array .long
  | 22 => .array .int
  | 23 => .int
  | 24 => .int
  | 25 => .array .boolean
  | _ => .array .int
abbrev wsX120 : List Cond := u_ws RX12 TX12 27
theorem nmX12 : ∀ a, a < 27 → ∀ b, b < 27 → a ≠ b → (TX12 a).2.1 ≠ (TX12 b).2.1 := by decide +kernel
theorem tyX12_ok : ∀ k, k < 27 → parseFieldDescriptor (TX12 k).2.2.1 = some (tyX12 k) := by decide +kernel
abbrev cX12_init : ByteArray := prog_14_method_1_code
def yX12_init : MethodName := ⟨RX12, "<init>", "()V"⟩
abbrev cX12_in : ByteArray := prog_14_method_2_code
def yX12_in : MethodName := ⟨RX12, "in", "(III)Z"⟩
abbrev cX12_act : ByteArray := prog_14_method_3_code
def yX12_act : MethodName := ⟨RX12, "act", "()V"⟩
abbrev cX12_isNumber : ByteArray := prog_14_method_4_code
def yX12_isNumber : MethodName := ⟨RX12, "isNumber", "(II)Z"⟩
abbrev cX12_adds : ByteArray := prog_14_method_5_code
def yX12_adds : MethodName := ⟨RX12, "adds", "(IIII)V"⟩
abbrev cX12_add : ByteArray := prog_14_method_6_code
def yX12_add : MethodName := ⟨RX12, "add", "(IIII)I"⟩
abbrev cX12_isPart : ByteArray := prog_14_method_7_code
def yX12_isPart : MethodName := ⟨RX12, "isPart", "(I)Z"⟩
abbrev cX12_remove : ByteArray := prog_14_method_8_code
def yX12_remove : MethodName := ⟨RX12, "remove", "(I)I"⟩
abbrev cX12_part : ByteArray := prog_14_method_9_code
def yX12_part : MethodName := ⟨RX12, "part", "(II)I"⟩
abbrev cX12_parts : ByteArray := prog_14_method_10_code
def yX12_parts : MethodName := ⟨RX12, "parts", "()I"⟩
abbrev cX12_sets : ByteArray := prog_14_method_11_code
def yX12_sets : MethodName := ⟨RX12, "sets", "(II)I"⟩
abbrev cX12_setLoss : ByteArray := prog_14_method_12_code
def yX12_setLoss : MethodName := ⟨RX12, "setLoss", "(I)I"⟩
abbrev cX12_setThreshold : ByteArray := prog_14_method_13_code
def yX12_setThreshold : MethodName := ⟨RX12, "setThreshold", "(I)I"⟩
abbrev cX12_type : ByteArray := prog_14_method_14_code
def yX12_type : MethodName := ⟨RX12, "type", "(I)I"⟩
abbrev cX12_clear : ByteArray := prog_14_method_15_code
def yX12_clear : MethodName := ⟨RX12, "clear", "()I"⟩
abbrev cX12_sign : ByteArray := prog_14_method_16_code
def yX12_sign : MethodName := ⟨RX12, "sign", "()I"⟩
abbrev cX12_takes : ByteArray := prog_14_method_17_code
def yX12_takes : MethodName := ⟨RX12, "takes", "(I)Z"⟩
abbrev cX12_four : ByteArray := prog_14_method_18_code
def yX12_four : MethodName := ⟨RX12, "four", "(IIII)Z"⟩
abbrev cX12_word : ByteArray := prog_14_method_19_code
def yX12_word : MethodName := ⟨RX12, "word", "()Z"⟩
abbrev cX12_number : ByteArray := prog_14_method_20_code
def yX12_number : MethodName := ⟨RX12, "number", "(IIIZ)Z"⟩
abbrev cX12_readsPart : ByteArray := prog_14_method_21_code
def yX12_readsPart : MethodName := ⟨RX12, "readsPart", "()Z"⟩
abbrev cX12_wrongAt : ByteArray := prog_14_method_22_code
def yX12_wrongAt : MethodName := ⟨RX12, "wrongAt", "()I"⟩
abbrev cX12_read : ByteArray := prog_14_method_23_code
def yX12_read : MethodName := ⟨RX12, "read", "()I"⟩
abbrev cX12_isStep : ByteArray := prog_14_method_24_code
def yX12_isStep : MethodName := ⟨RX12, "isStep", "(I)Z"⟩
abbrev cX12_wide : ByteArray := prog_14_method_25_code
def yX12_wide : MethodName := ⟨RX12, "wide", "(JJ)I"⟩
abbrev cX12_chord : ByteArray := prog_14_method_26_code
def yX12_chord : MethodName := ⟨RX12, "chord", "(I)I"⟩
abbrev cX12_time : ByteArray := prog_14_method_27_code
def yX12_time : MethodName := ⟨RX12, "time", "(I)I"⟩
abbrev cX12_circle : ByteArray := prog_14_method_28_code
def yX12_circle : MethodName := ⟨RX12, "circle", "(I)I"⟩
abbrev cX12_caustic : ByteArray := prog_14_method_29_code
def yX12_caustic : MethodName := ⟨RX12, "caustic", "(I)I"⟩
abbrev cX12_common : ByteArray := prog_14_method_30_code
def yX12_common : MethodName := ⟨RX12, "common", "(I)I"⟩
abbrev cX12_size : ByteArray := prog_14_method_31_code
def yX12_size : MethodName := ⟨RX12, "size", "(I)I"⟩
abbrev cX12_order : ByteArray := prog_14_method_32_code
def yX12_order : MethodName := ⟨RX12, "order", "(I)I"⟩
abbrev cX12_turns : ByteArray := prog_14_method_33_code
def yX12_turns : MethodName := ⟨RX12, "turns", "(I)I"⟩
abbrev cX12_isPlace : ByteArray := prog_14_method_34_code
def yX12_isPlace : MethodName := ⟨RX12, "isPlace", "(I)Z"⟩
abbrev cX12_aim : ByteArray := prog_14_method_35_code
def yX12_aim : MethodName := ⟨RX12, "aim", "(III)I"⟩
abbrev cX12_widest : ByteArray := prog_14_method_36_code
def yX12_widest : MethodName := ⟨RX12, "widest", "(I)I"⟩
abbrev cX12_begins : ByteArray := prog_14_method_37_code
def yX12_begins : MethodName := ⟨RX12, "begins", "(IJII)V"⟩
abbrev cX12_next : ByteArray := prog_14_method_38_code
def yX12_next : MethodName := ⟨RX12, "next", "()I"⟩
abbrev cX12_tilted : ByteArray := prog_14_method_39_code
def yX12_tilted : MethodName := ⟨RX12, "tilted", "(II)I"⟩
abbrev cX12_hears : ByteArray := prog_14_method_40_code
def yX12_hears : MethodName := ⟨RX12, "hears", "(II)V"⟩
abbrev cX12_meets : ByteArray := prog_14_method_41_code
def yX12_meets : MethodName := ⟨RX12, "meets", "(II)V"⟩
abbrev cX12_covers : ByteArray := prog_14_method_42_code
def yX12_covers : MethodName := ⟨RX12, "covers", "(II)Z"⟩
abbrev cX12_goes : ByteArray := prog_14_method_43_code
def yX12_goes : MethodName := ⟨RX12, "goes", "(I)V"⟩
abbrev cX12_shoot : ByteArray := prog_14_method_44_code
def yX12_shoot : MethodName := ⟨RX12, "shoot", "(III)I"⟩
abbrev cX12_hits : ByteArray := prog_14_method_45_code
def yX12_hits : MethodName := ⟨RX12, "hits", "()I"⟩
abbrev cX12_hit : ByteArray := prog_14_method_46_code
def yX12_hit : MethodName := ⟨RX12, "hit", "(II)J"⟩
abbrev cX12_rays : ByteArray := prog_14_method_47_code
def yX12_rays : MethodName := ⟨RX12, "rays", "()I"⟩
abbrev cX12_covered : ByteArray := prog_14_method_48_code
def yX12_covered : MethodName := ⟨RX12, "covered", "()I"⟩
abbrev cX12_coverage : ByteArray := prog_14_method_49_code
def yX12_coverage : MethodName := ⟨RX12, "coverage", "()I"⟩
abbrev cX12_gap : ByteArray := prog_14_method_50_code
def yX12_gap : MethodName := ⟨RX12, "gap", "()I"⟩
abbrev cX12_heardOf : ByteArray := prog_14_method_51_code
def yX12_heardOf : MethodName := ⟨RX12, "heardOf", "(II)J"⟩
abbrev cX12_heard : ByteArray := prog_14_method_52_code
def yX12_heard : MethodName := ⟨RX12, "heard", "(II)J"⟩
abbrev cX12_echo : ByteArray := prog_14_method_53_code
def yX12_echo : MethodName := ⟨RX12, "echo", "(I)I"⟩
abbrev cX12_mean : ByteArray := prog_14_method_54_code
def yX12_mean : MethodName := ⟨RX12, "mean", "()F"⟩
abbrev cX12_between : ByteArray := prog_14_method_55_code
def yX12_between : MethodName := ⟨RX12, "between", "(III)Z"⟩
abbrev cX12_crosses : ByteArray := prog_14_method_56_code
def yX12_crosses : MethodName := ⟨RX12, "crosses", "(II)Z"⟩
abbrev cX12_crossings : ByteArray := prog_14_method_57_code
def yX12_crossings : MethodName := ⟨RX12, "crossings", "(I)I"⟩
abbrev cX12_undo : ByteArray := prog_14_method_58_code
def yX12_undo : MethodName := ⟨RX12, "undo", "()I"⟩
abbrev cX12_fingerprint : ByteArray := prog_14_method_59_code
def yX12_fingerprint : MethodName := ⟨RX12, "fingerprint", "()J"⟩
def RJ13 : String := "java/lang/Long"
def TJ13 : u_T := fun k => match k with
  | _ => ("", "", "", false)
def tyJ13 : Nat → FieldType := fun k => match k with
  | _ => .int
abbrev wsJ130 : List Cond := u_ws RJ13 TJ13 0
theorem nmJ13 : ∀ a, a < 0 → ∀ b, b < 0 → a ≠ b → (TJ13 a).2.1 ≠ (TJ13 b).2.1 := by decide +kernel
theorem tyJ13_ok : ∀ k, k < 0 → parseFieldDescriptor (TJ13 k).2.2.1 = some (tyJ13 k) := by decide +kernel
abbrev cJ13_bitCount_95d88 : ByteArray := prog_15_method_50_code
def yJ13_bitCount_95d88 : MethodName := ⟨RJ13, "bitCount", "(J)I"⟩
def RJ9 : String := "java/lang/Math"
def TJ9 : u_T := fun k => match k with
  | _ => ("", "", "", false)
def tyJ9 : Nat → FieldType := fun k => match k with
  | _ => .int
abbrev wsJ90 : List Cond := u_ws RJ9 TJ9 0
theorem nmJ9 : ∀ a, a < 0 → ∀ b, b < 0 → a ≠ b → (TJ9 a).2.1 ≠ (TJ9 b).2.1 := by decide +kernel
theorem tyJ9_ok : ∀ k, k < 0 → parseFieldDescriptor (TJ9 k).2.2.1 = some (tyJ9 k) := by decide +kernel
abbrev cJ9_floorMod_7cf53 : ByteArray := prog_16_method_50_code
def yJ9_floorMod_7cf53 : MethodName := ⟨RJ9, "floorMod", "(II)I"⟩
abbrev cJ9_abs_0f7a4 : ByteArray := prog_16_method_59_code
def yJ9_abs_0f7a4 : MethodName := ⟨RJ9, "abs", "(I)I"⟩
abbrev cJ9_max_7cf53 : ByteArray := prog_16_method_65_code
def yJ9_max_7cf53 : MethodName := ⟨RJ9, "max", "(II)I"⟩
abbrev cJ9_max_f86c9 : ByteArray := prog_16_method_66_code
def yJ9_max_f86c9 : MethodName := ⟨RJ9, "max", "(JJ)J"⟩
abbrev cJ9_min_7cf53 : ByteArray := prog_16_method_69_code
def yJ9_min_7cf53 : MethodName := ⟨RJ9, "min", "(II)I"⟩
def RJ0 : String := "java/lang/String"
def TJ0 : u_T := fun k => match k with
  | _ => ("", "", "", false)
def tyJ0 : Nat → FieldType := fun k => match k with
  | _ => .int
abbrev wsJ00 : List Cond := u_ws RJ0 TJ0 0
theorem nmJ0 : ∀ a, a < 0 → ∀ b, b < 0 → a ≠ b → (TJ0 a).2.1 ≠ (TJ0 b).2.1 := by decide +kernel
theorem tyJ0_ok : ∀ k, k < 0 → parseFieldDescriptor (TJ0 k).2.2.1 = some (tyJ0 k) := by decide +kernel
abbrev cJ0_length_8abf5 : ByteArray := prog_17_method_54_code
def yJ0_length_8abf5 : MethodName := ⟨RJ0, "length", "()I"⟩
abbrev cJ0_charAt_5068e : ByteArray := prog_17_method_56_code
def yJ0_charAt_5068e : MethodName := ⟨RJ0, "charAt", "(I)C"⟩
abbrev cJ0_coder_7d493 : ByteArray := prog_17_method_152_code
def yJ0_coder_7d493 : MethodName := ⟨RJ0, "coder", "()B"⟩
abbrev cJ0_isLatin1_aae02 : ByteArray := prog_17_method_154_code
def yJ0_isLatin1_aae02 : MethodName := ⟨RJ0, "isLatin1", "()Z"⟩
abbrev cJ0_checkIndex_df160 : ByteArray := prog_17_method_155_code
def yJ0_checkIndex_df160 : MethodName := ⟨RJ0, "checkIndex", "(II)V"⟩
def RJ1 : String := "java/lang/StringLatin1"
def TJ1 : u_T := fun k => match k with
  | _ => ("", "", "", false)
def tyJ1 : Nat → FieldType := fun k => match k with
  | _ => .int
abbrev wsJ10 : List Cond := u_ws RJ1 TJ1 0
theorem nmJ1 : ∀ a, a < 0 → ∀ b, b < 0 → a ≠ b → (TJ1 a).2.1 ≠ (TJ1 b).2.1 := by decide +kernel
theorem tyJ1_ok : ∀ k, k < 0 → parseFieldDescriptor (TJ1 k).2.2.1 = some (tyJ1 k) := by decide +kernel
abbrev cJ1_charAt_3b067 : ByteArray := prog_18_method_2_code
def yJ1_charAt_3b067 : MethodName := ⟨RJ1, "charAt", "([BI)C"⟩
def RJ2 : String := "java/lang/StringUTF16"
def TJ2 : u_T := fun k => match k with
  | _ => ("", "", "", false)
def tyJ2 : Nat → FieldType := fun k => match k with
  | _ => .int
abbrev wsJ20 : List Cond := u_ws RJ2 TJ2 0
theorem nmJ2 : ∀ a, a < 0 → ∀ b, b < 0 → a ≠ b → (TJ2 a).2.1 ≠ (TJ2 b).2.1 := by decide +kernel
theorem tyJ2_ok : ∀ k, k < 0 → parseFieldDescriptor (TJ2 k).2.2.1 = some (tyJ2 k) := by decide +kernel
abbrev cJ2_getChar_3b067 : ByteArray := prog_19_method_5_code
def yJ2_getChar_3b067 : MethodName := ⟨RJ2, "getChar", "([BI)C"⟩
abbrev cJ2_length_9d52b : ByteArray := prog_19_method_6_code
def yJ2_length_9d52b : MethodName := ⟨RJ2, "length", "([B)I"⟩
abbrev cJ2_charAt_3b067 : ByteArray := prog_19_method_83_code
def yJ2_charAt_3b067 : MethodName := ⟨RJ2, "charAt", "([BI)C"⟩
abbrev cJ2_checkIndex_2214a : ByteArray := prog_19_method_91_code
def yJ2_checkIndex_2214a : MethodName := ⟨RJ2, "checkIndex", "(I[B)V"⟩
def RJ10 : String := "java/lang/System"
def TJ10 : u_T := fun k => match k with
  | _ => ("", "", "", false)
def tyJ10 : Nat → FieldType := fun k => match k with
  | _ => .int
abbrev wsJ100 : List Cond := u_ws RJ10 TJ10 0
theorem nmJ10 : ∀ a, a < 0 → ∀ b, b < 0 → a ≠ b → (TJ10 a).2.1 ≠ (TJ10 b).2.1 := by decide +kernel
theorem tyJ10_ok : ∀ k, k < 0 → parseFieldDescriptor (TJ10 k).2.2.1 = some (tyJ10 k) := by decide +kernel
def RJ3 : String := "jdk/internal/util/Preconditions"
def TJ3 : u_T := fun k => match k with
  | _ => ("", "", "", false)
def tyJ3 : Nat → FieldType := fun k => match k with
  | _ => .int
abbrev wsJ30 : List Cond := u_ws RJ3 TJ3 0
theorem nmJ3 : ∀ a, a < 0 → ∀ b, b < 0 → a ≠ b → (TJ3 a).2.1 ≠ (TJ3 b).2.1 := by decide +kernel
theorem tyJ3_ok : ∀ k, k < 0 → parseFieldDescriptor (TJ3 k).2.2.1 = some (tyJ3 k) := by decide +kernel
abbrev cJ3_checkIndex_8e157 : ByteArray := prog_21_method_11_code
def yJ3_checkIndex_8e157 : MethodName := ⟨RJ3, "checkIndex", "(IILjava/util/function/BiFunction;)I"⟩
def RL : String := "GalleryRaysLaw"
abbrev cL_law : ByteArray := code
def yL_law : MethodName := ⟨RL, "law", "([I)Z"⟩
def wsX0_isPlace : List Cond := .code yX0_isPlace cX0_isPlace 1 (some .boolean) :: ([])
def wsX0_isStep : List Cond := .code yX0_isStep cX0_isStep 1 (some .boolean) :: ([])
def wsJ9_floorMod_7cf53 : List Cond := .code yJ9_floorMod_7cf53 cJ9_floorMod_7cf53 3 (some .int) :: ([])
def wsX0_placeAfter : List Cond := .code yX0_placeAfter cX0_placeAfter 2 (some .int) :: ([.methodLink RX0 9 yJ9_floorMod_7cf53, .static yJ9_floorMod_7cf53, .initialized RJ9, .code yJ9_floorMod_7cf53 cJ9_floorMod_7cf53 3 (some .int)])
def wsX0_sine : List Cond := .code yX0_sine cX0_sine 4 (some .int) :: ([.constantLong RX0 15 (16), .constantLong RX0 17 (3841992000), .constantLong RX0 19 (4)])
def wsX0_chordTime : List Cond := .code yX0_chordTime cX0_chordTime 1 (some .int) :: ([.constant RX0 21 (2000000), .methodLink RX0 22 Lib.Math.abs.name, .static Lib.Math.abs.name, .initialized "java/lang/Math", .code Lib.Math.abs.name Lib.Math.abs.code 1 (some .int), .methodLink RX0 26 yX0_sine, .static yX0_sine, .initialized RX0, .code yX0_sine cX0_sine 4 (some .int), .constantLong RX0 15 (16), .constantLong RX0 17 (3841992000), .constantLong RX0 19 (4)])
def wsX0_causticRadius : List Cond := .code yX0_causticRadius cX0_causticRadius 1 (some .int) :: ([.constant RX0 31 (1000000), .methodLink RX0 22 Lib.Math.abs.name, .static Lib.Math.abs.name, .initialized "java/lang/Math", .code Lib.Math.abs.name Lib.Math.abs.code 1 (some .int), .methodLink RX0 26 yX0_sine, .static yX0_sine, .initialized RX0, .code yX0_sine cX0_sine 4 (some .int), .constantLong RX0 15 (16), .constantLong RX0 17 (3841992000), .constantLong RX0 19 (4)])
def wsX0_sharedDivisor : List Cond := .code yX0_sharedDivisor cX0_sharedDivisor 5 (some .int) :: ([.methodLink RX0 22 Lib.Math.abs.name, .static Lib.Math.abs.name, .initialized "java/lang/Math", .code Lib.Math.abs.name Lib.Math.abs.code 1 (some .int)])
def wsX0_tilted : List Cond := .code yX0_tilted cX0_tilted 3 (some .int) :: ([.methodLink RX0 22 Lib.Math.abs.name, .static Lib.Math.abs.name, .initialized "java/lang/Math", .code Lib.Math.abs.name Lib.Math.abs.code 1 (some .int)])
def wsX0_isBetter : List Cond := .code yX0_isBetter cX0_isBetter 4 (some .boolean) :: ([.methodLink RX0 22 Lib.Math.abs.name, .static Lib.Math.abs.name, .initialized "java/lang/Math", .code Lib.Math.abs.name Lib.Math.abs.code 1 (some .int)])
def wsX0_smallestStep : List Cond := .code yX0_smallestStep cX0_smallestStep 5 (some .int) :: ([.methodLink RX0 32 yX0_isStep, .static yX0_isStep, .initialized RX0, .code yX0_isStep cX0_isStep 1 (some .boolean), .methodLink RX0 36 yX0_isBetter, .static yX0_isBetter, .code yX0_isBetter cX0_isBetter 4 (some .boolean), .methodLink RX0 22 Lib.Math.abs.name, .static Lib.Math.abs.name, .initialized "java/lang/Math", .code Lib.Math.abs.name Lib.Math.abs.code 1 (some .int)])
def wsX1_forget : List Cond := .code yX1_forget cX1_forget 3 none :: ([.fieldLink RX1 9 "GalleryRays$Ears" "numbers" "[J", .constantLong RX1 18 (-100009)] ++ wsX10)
def wsX1_init : List Cond := .code yX1_init cX1_init 1 none :: ([.methodLink RX1 3 objectInit, .instanceMethod objectInit, .code objectInit ⟨#[0xb1]⟩ 1 none, .arrayClass .long, .fieldLink RX1 9 "GalleryRays$Ears" "numbers" "[J", .methodLink RX1 15 yX1_forget, .instanceMethod yX1_forget, .selects RX1 yX1_forget yX1_forget, .initialized RX1, .code yX1_forget cX1_forget 3 none, .constantLong RX1 18 (-100009)] ++ wsX10)
def wsX1_hear : List Cond := .code yX1_hear cX1_hear 4 none :: ([.fieldLink RX1 9 "GalleryRays$Ears" "numbers" "[J", .methodLink RX1 30 Lib.MathLoose.max_long.x, .static Lib.MathLoose.max_long.x, .initialized "java/lang/Math", .code Lib.MathLoose.max_long.x Lib.MathLoose.max_long.code 4 (some .long)] ++ wsX10 ++ wsX70)
def wsX1_numberOf : List Cond := .code yX1_numberOf cX1_numberOf 3 (some .long) :: ([.constantLong RX1 36 (-100001), .fieldLink RX1 9 "GalleryRays$Ears" "numbers" "[J"] ++ wsX10)
def wsX4_init : List Cond := .code yX4_init cX4_init 1 none :: ([.methodLink RX4 3 objectInit, .instanceMethod objectInit, .code objectInit ⟨#[0xb1]⟩ 1 none, .arrayClass .int, .fieldLink RX4 9 "GalleryRays$Parts" "numbers" "[I"] ++ wsX40)
def wsX10_init : List Cond := .code yX10_init cX10_init 1 none :: ([.methodLink RX10 1 objectInit, .instanceMethod objectInit, .code objectInit ⟨#[0xb1]⟩ 1 none, .classLink RX10 7 RX4, .instantiable RX4 2, .initialized RX4, .fieldLink RX10 10 "GalleryRays$Wall" "parts" "LGalleryRays$Parts;", .fieldLink RX10 16 "GalleryRays$Wall" "loss" "I", .fieldLink RX10 20 "GalleryRays$Wall" "threshold" "I", .instanceMethod yX4_init, .code yX4_init cX4_init 1 none, .methodLink RX4 3 objectInit, .arrayClass .int, .fieldLink RX4 9 "GalleryRays$Parts" "numbers" "[I"] ++ wsX40 ++ wsX100)
def wsX2_init : List Cond := .code yX2_init cX2_init 2 none :: ([.methodLink RX2 3 objectInit, .instanceMethod objectInit, .code objectInit ⟨#[0xb1]⟩ 1 none, .classLink RX2 9 RX10, .fieldLink RX2 11 "GalleryRays$History" "states" "[LGalleryRays$Wall;", .instantiable RX10 3, .initialized RX10, .instanceMethod yX10_init, .code yX10_init cX10_init 1 none, .methodLink RX10 1 objectInit, .classLink RX10 7 RX4, .instantiable RX4 2, .initialized RX4, .fieldLink RX10 10 "GalleryRays$Wall" "parts" "LGalleryRays$Parts;", .fieldLink RX10 16 "GalleryRays$Wall" "loss" "I", .fieldLink RX10 20 "GalleryRays$Wall" "threshold" "I", .instanceMethod yX4_init, .code yX4_init cX4_init 1 none, .methodLink RX4 3 objectInit, .arrayClass .int, .fieldLink RX4 9 "GalleryRays$Parts" "numbers" "[I"] ++ wsX20 ++ wsX100 ++ wsX40)
def wsX2_dropOldest : List Cond := .code yX2_dropOldest cX2_dropOldest 3 none :: ([.fieldLink RX2 11 "GalleryRays$History" "states" "[LGalleryRays$Wall;", .fieldLink RX2 18 "GalleryRays$History" "count" "I"] ++ wsX20)
def wsX4_copyFrom : List Cond := .code yX4_copyFrom cX4_copyFrom 2 none :: ([.fieldLink RX4 9 "GalleryRays$Parts" "numbers" "[I", .fieldLink RX4 41 "GalleryRays$Parts" "count" "I", .methodLink RX4 62 arraycopyName, .native arraycopyName, .static arraycopyName, .initialized "java/lang/System"] ++ wsX40)
def wsX10_copyFrom : List Cond := .code yX10_copyFrom cX10_copyFrom 2 none :: ([.fieldLink RX10 10 "GalleryRays$Wall" "parts" "LGalleryRays$Parts;", .fieldLink RX10 16 "GalleryRays$Wall" "loss" "I", .fieldLink RX10 20 "GalleryRays$Wall" "threshold" "I", .methodLink RX10 23 yX4_copyFrom, .instanceMethod yX4_copyFrom, .selects RX4 yX4_copyFrom yX4_copyFrom, .initialized RX4, .code yX4_copyFrom cX4_copyFrom 2 none, .fieldLink RX4 9 "GalleryRays$Parts" "numbers" "[I", .fieldLink RX4 41 "GalleryRays$Parts" "count" "I", .methodLink RX4 62 arraycopyName, .native arraycopyName, .static arraycopyName, .initialized "java/lang/System"] ++ wsX100 ++ wsX40)
def wsX2_keep_r1 : List Cond := [Cond.fieldLink RX2 18 "GalleryRays$History" "count" "I", Cond.fieldLink RX2 11 "GalleryRays$History" "states" "[LGalleryRays$Wall;", Cond.methodLink RX2 22 yX2_dropOldest, Cond.instanceMethod yX2_dropOldest, Cond.selects RX2 yX2_dropOldest yX2_dropOldest, Cond.initialized RX2, Cond.code yX2_dropOldest cX2_dropOldest 3 none, Cond.methodLink RX2 25 yX10_copyFrom, Cond.instanceMethod yX10_copyFrom, Cond.selects RX10 yX10_copyFrom yX10_copyFrom, Cond.initialized RX10, Cond.code yX10_copyFrom cX10_copyFrom 2 none, Cond.fieldLink RX10 10 "GalleryRays$Wall" "parts" "LGalleryRays$Parts;", Cond.fieldLink RX10 16 "GalleryRays$Wall" "loss" "I", Cond.fieldLink RX10 20 "GalleryRays$Wall" "threshold" "I", Cond.methodLink RX10 23 yX4_copyFrom, Cond.instanceMethod yX4_copyFrom, Cond.selects RX4 yX4_copyFrom yX4_copyFrom, Cond.initialized RX4, Cond.code yX4_copyFrom cX4_copyFrom 2 none, Cond.fieldLink RX4 9 "GalleryRays$Parts" "numbers" "[I", Cond.fieldLink RX4 41 "GalleryRays$Parts" "count" "I", Cond.methodLink RX4 62 arraycopyName, Cond.native arraycopyName]
def wsX2_keep_r2 : List Cond := [Cond.static arraycopyName, Cond.initialized "java/lang/System"]
def wsX2_keep : List Cond := .code yX2_keep cX2_keep 2 none :: ((wsX2_keep_r1 ++ wsX2_keep_r2) ++ wsX20 ++ wsX100 ++ wsX40)
def wsX2_restore : List Cond := .code yX2_restore cX2_restore 2 none :: ([.fieldLink RX2 18 "GalleryRays$History" "count" "I", .fieldLink RX2 11 "GalleryRays$History" "states" "[LGalleryRays$Wall;", .methodLink RX2 25 yX10_copyFrom, .instanceMethod yX10_copyFrom, .selects RX10 yX10_copyFrom yX10_copyFrom, .initialized RX10, .code yX10_copyFrom cX10_copyFrom 2 none, .fieldLink RX10 10 "GalleryRays$Wall" "parts" "LGalleryRays$Parts;", .fieldLink RX10 16 "GalleryRays$Wall" "loss" "I", .fieldLink RX10 20 "GalleryRays$Wall" "threshold" "I", .methodLink RX10 23 yX4_copyFrom, .instanceMethod yX4_copyFrom, .selects RX4 yX4_copyFrom yX4_copyFrom, .initialized RX4, .code yX4_copyFrom cX4_copyFrom 2 none, .fieldLink RX4 9 "GalleryRays$Parts" "numbers" "[I", .fieldLink RX4 41 "GalleryRays$Parts" "count" "I", .methodLink RX4 62 arraycopyName, .native arraycopyName, .static arraycopyName, .initialized "java/lang/System"] ++ wsX20 ++ wsX100 ++ wsX40)
def wsX3_init : List Cond := .code yX3_init cX3_init 1 none :: ([.methodLink RX3 3 objectInit, .instanceMethod objectInit, .code objectInit ⟨#[0xb1]⟩ 1 none, .arrayClass .long, .fieldLink RX3 9 "GalleryRays$HitLog" "numbers" "[J", .arrayClass .int, .fieldLink RX3 15 "GalleryRays$HitLog" "echoes" "[I"] ++ wsX30)
def wsX3_forget : List Cond := .code yX3_forget cX3_forget 1 none :: ([.fieldLink RX3 19 "GalleryRays$HitLog" "count" "I", .fieldLink RX3 23 "GalleryRays$HitLog" "echoCount" "I", .fieldLink RX3 26 "GalleryRays$HitLog" "energySum" "J"] ++ wsX30)
def wsX3_note : List Cond := .code yX3_note cX3_note 3 none :: ([.fieldLink RX3 19 "GalleryRays$HitLog" "count" "I", .fieldLink RX3 9 "GalleryRays$HitLog" "numbers" "[J", .fieldLink RX3 26 "GalleryRays$HitLog" "energySum" "J"] ++ wsX30 ++ wsX70)
def wsX3_noteEcho : List Cond := .code yX3_noteEcho cX3_noteEcho 2 none :: ([.fieldLink RX3 19 "GalleryRays$HitLog" "count" "I", .fieldLink RX3 23 "GalleryRays$HitLog" "echoCount" "I", .fieldLink RX3 15 "GalleryRays$HitLog" "echoes" "[I"] ++ wsX30)
def wsX3_numberOf : List Cond := .code yX3_numberOf cX3_numberOf 3 (some .long) :: ([.fieldLink RX3 19 "GalleryRays$HitLog" "count" "I", .constantLong RX3 47 (-100001), .fieldLink RX3 9 "GalleryRays$HitLog" "numbers" "[J"] ++ wsX30)
def wsX3_echoAt : List Cond := .code yX3_echoAt cX3_echoAt 2 (some .int) :: ([.constant RX3 49 (-100001), .fieldLink RX3 23 "GalleryRays$HitLog" "echoCount" "I", .fieldLink RX3 15 "GalleryRays$HitLog" "echoes" "[I", .constant RX3 50 (-100009)] ++ wsX30)
def wsX3_meanEnergy : List Cond := .code yX3_meanEnergy cX3_meanEnergy 1 (some .float) :: ([.fieldLink RX3 19 "GalleryRays$HitLog" "count" "I", .fieldLink RX3 26 "GalleryRays$HitLog" "energySum" "J"] ++ wsX30)
def wsX4_mayBeNegative : List Cond := .code yX4_mayBeNegative cX4_mayBeNegative 1 (some .boolean) :: ([])
def wsX4_leastBy : List Cond := .code yX4_leastBy cX4_leastBy 1 (some .int) :: ([.methodLink RX4 28 yX4_mayBeNegative, .static yX4_mayBeNegative, .initialized RX4, .code yX4_mayBeNegative cX4_mayBeNegative 1 (some .boolean)])
def wsX4_mostBy : List Cond := .code yX4_mostBy cX4_mostBy 1 (some .int) :: ([.methodLink RX4 28 yX4_mayBeNegative, .static yX4_mayBeNegative, .initialized RX4, .code yX4_mayBeNegative cX4_mayBeNegative 1 (some .boolean)])
def wsX4_isAllowed : List Cond := .code yX4_isAllowed cX4_isAllowed 4 (some .boolean) :: ([.methodLink RX4 15 yX0_isPlace, .static yX0_isPlace, .initialized RX0, .code yX0_isPlace cX0_isPlace 1 (some .boolean), .methodLink RX4 21 yX4_leastBy, .static yX4_leastBy, .initialized RX4, .code yX4_leastBy cX4_leastBy 1 (some .int), .methodLink RX4 28 yX4_mayBeNegative, .static yX4_mayBeNegative, .code yX4_mayBeNegative cX4_mayBeNegative 1 (some .boolean), .methodLink RX4 25 yX4_mostBy, .static yX4_mostBy, .code yX4_mostBy cX4_mostBy 1 (some .int)])
def wsX4_hasBy : List Cond := .code yX4_hasBy cX4_hasBy 1 (some .boolean) :: ([.methodLink RX4 28 yX4_mayBeNegative, .static yX4_mayBeNegative, .initialized RX4, .code yX4_mayBeNegative cX4_mayBeNegative 1 (some .boolean)])
def wsX4_word : List Cond := .code yX4_word cX4_word 1 (some (.object "java/lang/String")) :: ([])
def wsX4_has : List Cond := .code yX4_has cX4_has 2 (some .boolean) :: ([.fieldLink RX4 41 "GalleryRays$Parts" "count" "I"] ++ wsX40)
def wsX4_numberOf : List Cond := .code yX4_numberOf cX4_numberOf 3 (some .int) :: ([.constant RX4 48 (-100001), .fieldLink RX4 9 "GalleryRays$Parts" "numbers" "[I", .methodLink RX4 45 yX4_has, .instanceMethod yX4_has, .selects RX4 yX4_has yX4_has, .initialized RX4, .code yX4_has cX4_has 2 (some .boolean), .fieldLink RX4 41 "GalleryRays$Parts" "count" "I"] ++ wsX40)
def wsX4_covers : List Cond := .code yX4_covers cX4_covers 3 (some .boolean) :: ([.methodLink RX4 49 yX4_numberOf, .instanceMethod yX4_numberOf, .selects RX4 yX4_numberOf yX4_numberOf, .initialized RX4, .code yX4_numberOf cX4_numberOf 3 (some .int), .constant RX4 48 (-100001), .fieldLink RX4 9 "GalleryRays$Parts" "numbers" "[I", .methodLink RX4 45 yX4_has, .instanceMethod yX4_has, .selects RX4 yX4_has yX4_has, .code yX4_has cX4_has 2 (some .boolean), .fieldLink RX4 41 "GalleryRays$Parts" "count" "I", .methodLink RX4 53 yJ9_floorMod_7cf53, .static yJ9_floorMod_7cf53, .initialized RJ9, .code yJ9_floorMod_7cf53 cJ9_floorMod_7cf53 3 (some .int)] ++ wsX40)
def wsX4_append : List Cond := .code yX4_append cX4_append 6 none :: ([.fieldLink RX4 41 "GalleryRays$Parts" "count" "I", .fieldLink RX4 9 "GalleryRays$Parts" "numbers" "[I"] ++ wsX40)
def wsX4_appendAll : List Cond := .code yX4_appendAll cX4_appendAll 3 none :: ([.fieldLink RX4 41 "GalleryRays$Parts" "count" "I", .methodLink RX4 49 yX4_numberOf, .instanceMethod yX4_numberOf, .selects RX4 yX4_numberOf yX4_numberOf, .initialized RX4, .code yX4_numberOf cX4_numberOf 3 (some .int), .constant RX4 48 (-100001), .fieldLink RX4 9 "GalleryRays$Parts" "numbers" "[I", .methodLink RX4 45 yX4_has, .instanceMethod yX4_has, .selects RX4 yX4_has yX4_has, .code yX4_has cX4_has 2 (some .boolean), .methodLink RX4 58 yX4_append, .instanceMethod yX4_append, .selects RX4 yX4_append yX4_append, .code yX4_append cX4_append 6 none] ++ wsX40)
def wsX4_takeOut : List Cond := .code yX4_takeOut cX4_takeOut 4 none :: ([.fieldLink RX4 9 "GalleryRays$Parts" "numbers" "[I", .fieldLink RX4 41 "GalleryRays$Parts" "count" "I", .methodLink RX4 62 arraycopyName, .native arraycopyName, .static arraycopyName, .initialized "java/lang/System", .methodLink RX4 45 yX4_has, .instanceMethod yX4_has, .selects RX4 yX4_has yX4_has, .initialized RX4, .code yX4_has cX4_has 2 (some .boolean)] ++ wsX40)
def wsX5_init : List Cond := .code yX5_init cX5_init 1 none :: ([.methodLink RX5 3 objectInit, .instanceMethod objectInit, .code objectInit ⟨#[0xb1]⟩ 1 none, .arrayClass .int, .fieldLink RX5 9 "GalleryRays$Path" "corners" "[I"] ++ wsX50)
def wsX5_goTo : List Cond := .code yX5_goTo cX5_goTo 2 none :: ([.fieldLink RX5 15 "GalleryRays$Path" "count" "I", .fieldLink RX5 9 "GalleryRays$Path" "corners" "[I"] ++ wsX50)
def wsX5_startAt : List Cond := .code yX5_startAt cX5_startAt 2 none :: ([.fieldLink RX5 15 "GalleryRays$Path" "count" "I", .methodLink RX5 19 yX5_goTo, .instanceMethod yX5_goTo, .selects RX5 yX5_goTo yX5_goTo, .initialized RX5, .code yX5_goTo cX5_goTo 2 none, .fieldLink RX5 9 "GalleryRays$Path" "corners" "[I"] ++ wsX50)
def wsX5_isBetween : List Cond := .code yX5_isBetween cX5_isBetween 3 (some .boolean) :: ([])
def wsX5_isBeyond : List Cond := .code yX5_isBeyond cX5_isBeyond 3 (some .boolean) :: ([])
def wsX5_cross : List Cond := .code yX5_cross cX5_cross 6 (some .boolean) :: ([.methodLink RX5 23 Lib.Math.min.name, .static Lib.Math.min.name, .initialized "java/lang/Math", .code Lib.Math.min.name Lib.Math.min.code 2 (some .int), .methodLink RX5 33 Lib.Math.max.name, .static Lib.Math.max.name, .code Lib.Math.max.name Lib.Math.max.code 2 (some .int), .methodLink RX5 36 yX5_isBetween, .static yX5_isBetween, .initialized RX5, .code yX5_isBetween cX5_isBetween 3 (some .boolean), .methodLink RX5 40 yX5_isBeyond, .static yX5_isBeyond, .code yX5_isBeyond cX5_isBeyond 3 (some .boolean)])
def wsX5_crossingPairs : List Cond := .code yX5_crossingPairs cX5_crossingPairs 6 (some .int) :: ([.fieldLink RX5 15 "GalleryRays$Path" "count" "I", .methodLink RX5 23 Lib.Math.min.name, .static Lib.Math.min.name, .initialized "java/lang/Math", .code Lib.Math.min.name Lib.Math.min.code 2 (some .int), .fieldLink RX5 9 "GalleryRays$Path" "corners" "[I", .methodLink RX5 29 yX5_cross, .static yX5_cross, .initialized RX5, .code yX5_cross cX5_cross 6 (some .boolean), .methodLink RX5 33 Lib.Math.max.name, .static Lib.Math.max.name, .code Lib.Math.max.name Lib.Math.max.code 2 (some .int), .methodLink RX5 36 yX5_isBetween, .static yX5_isBetween, .code yX5_isBetween cX5_isBetween 3 (some .boolean), .methodLink RX5 40 yX5_isBeyond, .static yX5_isBeyond, .code yX5_isBeyond cX5_isBeyond 3 (some .boolean)] ++ wsX50)
def wsX6_init : List Cond := .code yX6_init cX6_init 1 none :: ([.methodLink RX6 3 objectInit, .instanceMethod objectInit, .code objectInit ⟨#[0xb1]⟩ 1 none, .arrayClass .long, .fieldLink RX6 9 "GalleryRays$PlaceMarks" "words" "[J"] ++ wsX60)
def wsX6_forget : List Cond := .code yX6_forget cX6_forget 2 none :: ([.fieldLink RX6 9 "GalleryRays$PlaceMarks" "words" "[J", .fieldLink RX6 15 "GalleryRays$PlaceMarks" "count" "I"] ++ wsX60)
def wsX6_mark : List Cond := .code yX6_mark cX6_mark 4 none :: ([.fieldLink RX6 9 "GalleryRays$PlaceMarks" "words" "[J", .fieldLink RX6 15 "GalleryRays$PlaceMarks" "count" "I", .methodLink RX6 19 yX0_isPlace, .static yX0_isPlace, .initialized RX0, .code yX0_isPlace cX0_isPlace 1 (some .boolean)] ++ wsX60)
def wsJ13_bitCount_95d88 : List Cond := .code yJ13_bitCount_95d88 cJ13_bitCount_95d88 2 (some .int) :: ([.constantLong RJ13 314 (6148914691236517205), .constantLong RJ13 316 (3689348814741910323), .constantLong RJ13 318 (1085102592571150095)])
def wsX6_lowestBit : List Cond := .code yX6_lowestBit cX6_lowestBit 2 (some .int) :: ([.methodLink RX6 25 yJ13_bitCount_95d88, .static yJ13_bitCount_95d88, .initialized RJ13, .code yJ13_bitCount_95d88 cJ13_bitCount_95d88 2 (some .int), .constantLong RJ13 314 (6148914691236517205), .constantLong RJ13 316 (3689348814741910323), .constantLong RJ13 318 (1085102592571150095)])
def wsX6_longestGap : List Cond := .code yX6_longestGap cX6_longestGap 9 (some .int) :: ([.fieldLink RX6 15 "GalleryRays$PlaceMarks" "count" "I", .fieldLink RX6 9 "GalleryRays$PlaceMarks" "words" "[J", .methodLink RX6 34 Lib.Math.max.name, .static Lib.Math.max.name, .initialized "java/lang/Math", .code Lib.Math.max.name Lib.Math.max.code 2 (some .int), .methodLink RX6 31 yX6_lowestBit, .static yX6_lowestBit, .initialized RX6, .code yX6_lowestBit cX6_lowestBit 2 (some .int), .methodLink RX6 25 yJ13_bitCount_95d88, .static yJ13_bitCount_95d88, .initialized RJ13, .code yJ13_bitCount_95d88 cJ13_bitCount_95d88 2 (some .int), .constantLong RJ13 314 (6148914691236517205), .constantLong RJ13 316 (3689348814741910323), .constantLong RJ13 318 (1085102592571150095)] ++ wsX60)
def wsX7_init : List Cond := .code yX7_init cX7_init 2 none :: ([.methodLink RX7 1 objectInit, .instanceMethod objectInit, .code objectInit ⟨#[0xb1]⟩ 1 none, .fieldLink RX7 7 "GalleryRays$Ray" "number" "I"] ++ wsX70)
def wsX7_start : List Cond := .code yX7_start cX7_start 6 none :: ([.fieldLink RX7 13 "GalleryRays$Ray" "place" "I", .fieldLink RX7 16 "GalleryRays$Ray" "step" "I", .fieldLink RX7 19 "GalleryRays$Ray" "energy" "I", .fieldLink RX7 22 "GalleryRays$Ray" "arrival" "J", .fieldLink RX7 26 "GalleryRays$Ray" "going" "Z"] ++ wsX70)
def wsX7_lose : List Cond := .code yX7_lose cX7_lose 2 none :: ([.fieldLink RX7 19 "GalleryRays$Ray" "energy" "I"] ++ wsX70)
def wsX7_tilt : List Cond := .code yX7_tilt cX7_tilt 3 none :: ([.fieldLink RX7 16 "GalleryRays$Ray" "step" "I", .fieldLink RX7 26 "GalleryRays$Ray" "going" "Z", .methodLink RX7 30 yX0_tilted, .static yX0_tilted, .initialized RX0, .code yX0_tilted cX0_tilted 3 (some .int), .methodLink RX0 22 Lib.Math.abs.name, .static Lib.Math.abs.name, .initialized "java/lang/Math", .code Lib.Math.abs.name Lib.Math.abs.code 1 (some .int)] ++ wsX70)
def wsX8_init_r1 : List Cond := [Cond.methodLink RX8 3 objectInit, Cond.instanceMethod objectInit, Cond.code objectInit ⟨#[0xb1]⟩ 1 none, Cond.classLink RX8 9 RX7, Cond.fieldLink RX8 11 "GalleryRays$Shot" "rays" "[LGalleryRays$Ray;", Cond.classLink RX8 17 RX3, Cond.instantiable RX3 5, Cond.initialized RX3, Cond.fieldLink RX8 20 "GalleryRays$Shot" "log" "LGalleryRays$HitLog;", Cond.classLink RX8 24 RX6, Cond.instantiable RX6 2, Cond.initialized RX6, Cond.fieldLink RX8 27 "GalleryRays$Shot" "marks" "LGalleryRays$PlaceMarks;", Cond.classLink RX8 31 RX1, Cond.instantiable RX1 1, Cond.initialized RX1, Cond.fieldLink RX8 34 "GalleryRays$Shot" "ears" "LGalleryRays$Ears;", Cond.classLink RX8 38 RX5, Cond.instantiable RX5 2, Cond.initialized RX5, Cond.fieldLink RX8 41 "GalleryRays$Shot" "path" "LGalleryRays$Path;", Cond.instantiable RX7 6, Cond.initialized RX7, Cond.instanceMethod yX3_init]
def wsX8_init_r2 : List Cond := [Cond.code yX3_init cX3_init 1 none, Cond.methodLink RX3 3 objectInit, Cond.arrayClass .long, Cond.fieldLink RX3 9 "GalleryRays$HitLog" "numbers" "[J", Cond.arrayClass .int, Cond.fieldLink RX3 15 "GalleryRays$HitLog" "echoes" "[I", Cond.instanceMethod yX6_init, Cond.code yX6_init cX6_init 1 none, Cond.methodLink RX6 3 objectInit, Cond.fieldLink RX6 9 "GalleryRays$PlaceMarks" "words" "[J", Cond.methodLink RX8 33 yX1_init, Cond.instanceMethod yX1_init, Cond.code yX1_init cX1_init 1 none, Cond.methodLink RX1 3 objectInit, Cond.fieldLink RX1 9 "GalleryRays$Ears" "numbers" "[J", Cond.methodLink RX1 15 yX1_forget, Cond.instanceMethod yX1_forget, Cond.selects RX1 yX1_forget yX1_forget, Cond.code yX1_forget cX1_forget 3 none, Cond.constantLong RX1 18 (-100009), Cond.instanceMethod yX5_init, Cond.code yX5_init cX5_init 1 none, Cond.methodLink RX5 3 objectInit, Cond.fieldLink RX5 9 "GalleryRays$Path" "corners" "[I"]
def wsX8_init_r3 : List Cond := [Cond.methodLink RX8 45 yX7_init, Cond.instanceMethod yX7_init, Cond.code yX7_init cX7_init 2 none, Cond.methodLink RX7 1 objectInit, Cond.fieldLink RX7 7 "GalleryRays$Ray" "number" "I"]
def wsX8_init : List Cond := .code yX8_init cX8_init 2 none :: ((wsX8_init_r1 ++ (wsX8_init_r2 ++ wsX8_init_r3)) ++ wsX80 ++ wsX30 ++ wsX60 ++ wsX10 ++ wsX50 ++ wsX70)
def wsX8_begin : List Cond := .code yX8_begin cX8_begin 6 none :: ([.fieldLink RX8 56 "GalleryRays$Shot" "rayCount" "I", .fieldLink RX8 11 "GalleryRays$Shot" "rays" "[LGalleryRays$Ray;", .methodLink RX8 78 yX7_start, .instanceMethod yX7_start, .selects RX7 yX7_start yX7_start, .initialized RX7, .code yX7_start cX7_start 6 none, .fieldLink RX7 13 "GalleryRays$Ray" "place" "I", .fieldLink RX7 16 "GalleryRays$Ray" "step" "I", .fieldLink RX7 19 "GalleryRays$Ray" "energy" "I", .fieldLink RX7 22 "GalleryRays$Ray" "arrival" "J", .fieldLink RX7 26 "GalleryRays$Ray" "going" "Z"] ++ wsX80 ++ wsX70)
def wsX8_earliest : List Cond := .code yX8_earliest cX8_earliest 4 (some (.object "GalleryRays$Ray")) :: ([.fieldLink RX8 56 "GalleryRays$Shot" "rayCount" "I", .fieldLink RX8 11 "GalleryRays$Shot" "rays" "[LGalleryRays$Ray;"] ++ wsX80 ++ wsX70)
def wsX8_split_r1 : List Cond := [Cond.methodLink RX8 160 yX0_tilted, Cond.static yX0_tilted, Cond.initialized RX0, Cond.code yX0_tilted cX0_tilted 3 (some .int), Cond.methodLink RX0 22 Lib.Math.abs.name, Cond.static Lib.Math.abs.name, Cond.initialized "java/lang/Math", Cond.code Lib.Math.abs.name Lib.Math.abs.code 1 (some .int), Cond.methodLink RX8 60 yX0_chordTime, Cond.static yX0_chordTime, Cond.code yX0_chordTime cX0_chordTime 1 (some .int), Cond.constant RX0 21 (2000000), Cond.methodLink RX0 26 yX0_sine, Cond.static yX0_sine, Cond.code yX0_sine cX0_sine 4 (some .int), Cond.constantLong RX0 15 (16), Cond.constantLong RX0 17 (3841992000), Cond.constantLong RX0 19 (4), Cond.methodLink RX8 66 yX8_begin, Cond.instanceMethod yX8_begin, Cond.selects RX8 yX8_begin yX8_begin, Cond.initialized RX8, Cond.code yX8_begin cX8_begin 6 none, Cond.fieldLink RX8 56 "GalleryRays$Shot" "rayCount" "I"]
def wsX8_split_r2 : List Cond := [Cond.fieldLink RX8 11 "GalleryRays$Shot" "rays" "[LGalleryRays$Ray;", Cond.methodLink RX8 78 yX7_start, Cond.instanceMethod yX7_start, Cond.selects RX7 yX7_start yX7_start, Cond.initialized RX7, Cond.code yX7_start cX7_start 6 none, Cond.fieldLink RX7 13 "GalleryRays$Ray" "place" "I", Cond.fieldLink RX7 16 "GalleryRays$Ray" "step" "I", Cond.fieldLink RX7 19 "GalleryRays$Ray" "energy" "I", Cond.fieldLink RX7 22 "GalleryRays$Ray" "arrival" "J", Cond.fieldLink RX7 26 "GalleryRays$Ray" "going" "Z"]
def wsX8_split : List Cond := .code yX8_split cX8_split 6 none :: ((wsX8_split_r1 ++ wsX8_split_r2) ++ wsX70 ++ wsX80)
def wsX8_act_r1 : List Cond := [Cond.fieldLink RX8 34 "GalleryRays$Shot" "ears" "LGalleryRays$Ears;", Cond.fieldLink RX8 20 "GalleryRays$Shot" "log" "LGalleryRays$HitLog;", Cond.methodLink RX8 143 yX4_numberOf, Cond.instanceMethod yX4_numberOf, Cond.selects RX4 yX4_numberOf yX4_numberOf, Cond.initialized RX4, Cond.code yX4_numberOf cX4_numberOf 3 (some .int), Cond.constant RX4 48 (-100001), Cond.fieldLink RX4 9 "GalleryRays$Parts" "numbers" "[I", Cond.methodLink RX4 45 yX4_has, Cond.instanceMethod yX4_has, Cond.selects RX4 yX4_has yX4_has, Cond.code yX4_has cX4_has 2 (some .boolean), Cond.fieldLink RX4 41 "GalleryRays$Parts" "count" "I", Cond.methodLink RX8 117 yX7_lose, Cond.instanceMethod yX7_lose, Cond.selects RX7 yX7_lose yX7_lose, Cond.initialized RX7, Cond.code yX7_lose cX7_lose 2 none, Cond.fieldLink RX7 19 "GalleryRays$Ray" "energy" "I", Cond.methodLink RX8 146 yX7_tilt, Cond.instanceMethod yX7_tilt, Cond.selects RX7 yX7_tilt yX7_tilt, Cond.code yX7_tilt cX7_tilt 3 none]
def wsX8_act_r2 : List Cond := [Cond.fieldLink RX7 16 "GalleryRays$Ray" "step" "I", Cond.fieldLink RX7 26 "GalleryRays$Ray" "going" "Z", Cond.methodLink RX7 30 yX0_tilted, Cond.static yX0_tilted, Cond.initialized RX0, Cond.code yX0_tilted cX0_tilted 3 (some .int), Cond.methodLink RX0 22 Lib.Math.abs.name, Cond.static Lib.Math.abs.name, Cond.initialized "java/lang/Math", Cond.code Lib.Math.abs.name Lib.Math.abs.code 1 (some .int), Cond.methodLink RX8 149 yX8_split, Cond.instanceMethod yX8_split, Cond.selects RX8 yX8_split yX8_split, Cond.initialized RX8, Cond.code yX8_split cX8_split 6 none, Cond.methodLink RX8 160 yX0_tilted, Cond.methodLink RX8 60 yX0_chordTime, Cond.static yX0_chordTime, Cond.code yX0_chordTime cX0_chordTime 1 (some .int), Cond.constant RX0 21 (2000000), Cond.methodLink RX0 26 yX0_sine, Cond.static yX0_sine, Cond.code yX0_sine cX0_sine 4 (some .int), Cond.constantLong RX0 15 (16)]
def wsX8_act_r3 : List Cond := [Cond.constantLong RX0 17 (3841992000), Cond.constantLong RX0 19 (4), Cond.methodLink RX8 66 yX8_begin, Cond.instanceMethod yX8_begin, Cond.selects RX8 yX8_begin yX8_begin, Cond.code yX8_begin cX8_begin 6 none, Cond.fieldLink RX8 56 "GalleryRays$Shot" "rayCount" "I", Cond.fieldLink RX8 11 "GalleryRays$Shot" "rays" "[LGalleryRays$Ray;", Cond.methodLink RX8 78 yX7_start, Cond.instanceMethod yX7_start, Cond.selects RX7 yX7_start yX7_start, Cond.code yX7_start cX7_start 6 none, Cond.fieldLink RX7 13 "GalleryRays$Ray" "place" "I", Cond.fieldLink RX7 22 "GalleryRays$Ray" "arrival" "J", Cond.methodLink RX8 153 yX1_hear, Cond.instanceMethod yX1_hear, Cond.selects RX1 yX1_hear yX1_hear, Cond.initialized RX1, Cond.code yX1_hear cX1_hear 4 none, Cond.fieldLink RX1 9 "GalleryRays$Ears" "numbers" "[J", Cond.methodLink RX1 30 Lib.MathLoose.max_long.x, Cond.static Lib.MathLoose.max_long.x, Cond.code Lib.MathLoose.max_long.x Lib.MathLoose.max_long.code 4 (some .long), Cond.methodLink RX8 157 yX3_noteEcho]
def wsX8_act_r4 : List Cond := [Cond.instanceMethod yX3_noteEcho, Cond.selects RX3 yX3_noteEcho yX3_noteEcho, Cond.initialized RX3, Cond.code yX3_noteEcho cX3_noteEcho 2 none, Cond.fieldLink RX3 19 "GalleryRays$HitLog" "count" "I", Cond.fieldLink RX3 23 "GalleryRays$HitLog" "echoCount" "I", Cond.fieldLink RX3 15 "GalleryRays$HitLog" "echoes" "[I"]
def wsX8_act : List Cond := .code yX8_act cX8_act 5 none :: ((wsX8_act_r1 ++ (wsX8_act_r2 ++ (wsX8_act_r3 ++ wsX8_act_r4))) ++ wsX100 ++ wsX70 ++ wsX80 ++ wsX40 ++ wsX10 ++ wsX30)
def wsX8_meet_r1 : List Cond := [Cond.fieldLink RX8 20 "GalleryRays$Shot" "log" "LGalleryRays$HitLog;", Cond.fieldLink RX8 27 "GalleryRays$Shot" "marks" "LGalleryRays$PlaceMarks;", Cond.fieldLink RX8 41 "GalleryRays$Shot" "path" "LGalleryRays$Path;", Cond.methodLink RX8 95 yX0_placeAfter, Cond.static yX0_placeAfter, Cond.initialized RX0, Cond.code yX0_placeAfter cX0_placeAfter 2 (some .int), Cond.methodLink RX0 9 yJ9_floorMod_7cf53, Cond.static yJ9_floorMod_7cf53, Cond.initialized RJ9, Cond.code yJ9_floorMod_7cf53 cJ9_floorMod_7cf53 3 (some .int), Cond.methodLink RX8 99 yX3_note, Cond.instanceMethod yX3_note, Cond.selects RX3 yX3_note yX3_note, Cond.initialized RX3, Cond.code yX3_note cX3_note 3 none, Cond.fieldLink RX3 19 "GalleryRays$HitLog" "count" "I", Cond.fieldLink RX3 9 "GalleryRays$HitLog" "numbers" "[J", Cond.fieldLink RX3 26 "GalleryRays$HitLog" "energySum" "J", Cond.methodLink RX8 103 yX6_mark, Cond.instanceMethod yX6_mark, Cond.selects RX6 yX6_mark yX6_mark, Cond.initialized RX6, Cond.code yX6_mark cX6_mark 4 none]
def wsX8_meet_r2 : List Cond := [Cond.fieldLink RX6 9 "GalleryRays$PlaceMarks" "words" "[J", Cond.fieldLink RX6 15 "GalleryRays$PlaceMarks" "count" "I", Cond.methodLink RX6 19 yX0_isPlace, Cond.static yX0_isPlace, Cond.code yX0_isPlace cX0_isPlace 1 (some .boolean), Cond.methodLink RX8 109 yX5_goTo, Cond.instanceMethod yX5_goTo, Cond.selects RX5 yX5_goTo yX5_goTo, Cond.initialized RX5, Cond.code yX5_goTo cX5_goTo 2 none, Cond.fieldLink RX5 15 "GalleryRays$Path" "count" "I", Cond.fieldLink RX5 9 "GalleryRays$Path" "corners" "[I", Cond.methodLink RX8 117 yX7_lose, Cond.instanceMethod yX7_lose, Cond.selects RX7 yX7_lose yX7_lose, Cond.initialized RX7, Cond.code yX7_lose cX7_lose 2 none, Cond.fieldLink RX7 19 "GalleryRays$Ray" "energy" "I", Cond.methodLink RX8 129 yX4_covers, Cond.instanceMethod yX4_covers, Cond.selects RX4 yX4_covers yX4_covers, Cond.initialized RX4, Cond.code yX4_covers cX4_covers 3 (some .boolean), Cond.methodLink RX4 49 yX4_numberOf]
def wsX8_meet_r3 : List Cond := [Cond.instanceMethod yX4_numberOf, Cond.selects RX4 yX4_numberOf yX4_numberOf, Cond.code yX4_numberOf cX4_numberOf 3 (some .int), Cond.constant RX4 48 (-100001), Cond.fieldLink RX4 9 "GalleryRays$Parts" "numbers" "[I", Cond.methodLink RX4 45 yX4_has, Cond.instanceMethod yX4_has, Cond.selects RX4 yX4_has yX4_has, Cond.code yX4_has cX4_has 2 (some .boolean), Cond.fieldLink RX4 41 "GalleryRays$Parts" "count" "I", Cond.methodLink RX4 53 yJ9_floorMod_7cf53, Cond.methodLink RX8 133 yX8_act, Cond.instanceMethod yX8_act, Cond.selects RX8 yX8_act yX8_act, Cond.initialized RX8, Cond.code yX8_act cX8_act 5 none, Cond.fieldLink RX8 34 "GalleryRays$Shot" "ears" "LGalleryRays$Ears;", Cond.methodLink RX8 143 yX4_numberOf, Cond.methodLink RX8 146 yX7_tilt, Cond.instanceMethod yX7_tilt, Cond.selects RX7 yX7_tilt yX7_tilt, Cond.code yX7_tilt cX7_tilt 3 none, Cond.fieldLink RX7 16 "GalleryRays$Ray" "step" "I", Cond.fieldLink RX7 26 "GalleryRays$Ray" "going" "Z"]
def wsX8_meet_r4 : List Cond := [Cond.methodLink RX7 30 yX0_tilted, Cond.static yX0_tilted, Cond.code yX0_tilted cX0_tilted 3 (some .int), Cond.methodLink RX0 22 Lib.Math.abs.name, Cond.static Lib.Math.abs.name, Cond.initialized "java/lang/Math", Cond.code Lib.Math.abs.name Lib.Math.abs.code 1 (some .int), Cond.methodLink RX8 149 yX8_split, Cond.instanceMethod yX8_split, Cond.selects RX8 yX8_split yX8_split, Cond.code yX8_split cX8_split 6 none, Cond.methodLink RX8 160 yX0_tilted, Cond.methodLink RX8 60 yX0_chordTime, Cond.static yX0_chordTime, Cond.code yX0_chordTime cX0_chordTime 1 (some .int), Cond.constant RX0 21 (2000000), Cond.methodLink RX0 26 yX0_sine, Cond.static yX0_sine, Cond.code yX0_sine cX0_sine 4 (some .int), Cond.constantLong RX0 15 (16), Cond.constantLong RX0 17 (3841992000), Cond.constantLong RX0 19 (4), Cond.methodLink RX8 66 yX8_begin, Cond.instanceMethod yX8_begin]
def wsX8_meet_r5 : List Cond := [Cond.selects RX8 yX8_begin yX8_begin, Cond.code yX8_begin cX8_begin 6 none, Cond.fieldLink RX8 56 "GalleryRays$Shot" "rayCount" "I", Cond.fieldLink RX8 11 "GalleryRays$Shot" "rays" "[LGalleryRays$Ray;", Cond.methodLink RX8 78 yX7_start, Cond.instanceMethod yX7_start, Cond.selects RX7 yX7_start yX7_start, Cond.code yX7_start cX7_start 6 none, Cond.fieldLink RX7 13 "GalleryRays$Ray" "place" "I", Cond.fieldLink RX7 22 "GalleryRays$Ray" "arrival" "J", Cond.methodLink RX8 153 yX1_hear, Cond.instanceMethod yX1_hear, Cond.selects RX1 yX1_hear yX1_hear, Cond.initialized RX1, Cond.code yX1_hear cX1_hear 4 none, Cond.fieldLink RX1 9 "GalleryRays$Ears" "numbers" "[J", Cond.methodLink RX1 30 Lib.MathLoose.max_long.x, Cond.static Lib.MathLoose.max_long.x, Cond.code Lib.MathLoose.max_long.x Lib.MathLoose.max_long.code 4 (some .long), Cond.methodLink RX8 157 yX3_noteEcho, Cond.instanceMethod yX3_noteEcho, Cond.selects RX3 yX3_noteEcho yX3_noteEcho, Cond.code yX3_noteEcho cX3_noteEcho 2 none, Cond.fieldLink RX3 23 "GalleryRays$HitLog" "echoCount" "I"]
def wsX8_meet_r6 : List Cond := [Cond.fieldLink RX3 15 "GalleryRays$HitLog" "echoes" "[I"]
def wsX8_meet : List Cond := .code yX8_meet cX8_meet 4 none :: ((wsX8_meet_r1 ++ (wsX8_meet_r2 ++ (wsX8_meet_r3 ++ (wsX8_meet_r4 ++ (wsX8_meet_r5 ++ wsX8_meet_r6))))) ++ wsX70 ++ wsX80 ++ wsX100 ++ wsX40 ++ wsX30 ++ wsX60 ++ wsX50 ++ wsX10)
def wsX8_run_r1 : List Cond := [Cond.fieldLink RX8 20 "GalleryRays$Shot" "log" "LGalleryRays$HitLog;", Cond.fieldLink RX8 27 "GalleryRays$Shot" "marks" "LGalleryRays$PlaceMarks;", Cond.fieldLink RX8 34 "GalleryRays$Shot" "ears" "LGalleryRays$Ears;", Cond.fieldLink RX8 41 "GalleryRays$Shot" "path" "LGalleryRays$Path;", Cond.fieldLink RX8 56 "GalleryRays$Shot" "rayCount" "I", Cond.methodLink RX8 48 yX3_forget, Cond.instanceMethod yX3_forget, Cond.selects RX3 yX3_forget yX3_forget, Cond.initialized RX3, Cond.code yX3_forget cX3_forget 1 none, Cond.fieldLink RX3 19 "GalleryRays$HitLog" "count" "I", Cond.fieldLink RX3 23 "GalleryRays$HitLog" "echoCount" "I", Cond.fieldLink RX3 26 "GalleryRays$HitLog" "energySum" "J", Cond.methodLink RX8 51 yX6_forget, Cond.instanceMethod yX6_forget, Cond.selects RX6 yX6_forget yX6_forget, Cond.initialized RX6, Cond.code yX6_forget cX6_forget 2 none, Cond.fieldLink RX6 9 "GalleryRays$PlaceMarks" "words" "[J", Cond.fieldLink RX6 15 "GalleryRays$PlaceMarks" "count" "I", Cond.methodLink RX8 52 yX1_forget, Cond.instanceMethod yX1_forget, Cond.selects RX1 yX1_forget yX1_forget, Cond.initialized RX1]
def wsX8_run_r2 : List Cond := [Cond.code yX1_forget cX1_forget 3 none, Cond.fieldLink RX1 9 "GalleryRays$Ears" "numbers" "[J", Cond.constantLong RX1 18 (-100009), Cond.methodLink RX8 53 yX5_startAt, Cond.instanceMethod yX5_startAt, Cond.selects RX5 yX5_startAt yX5_startAt, Cond.initialized RX5, Cond.code yX5_startAt cX5_startAt 2 none, Cond.fieldLink RX5 15 "GalleryRays$Path" "count" "I", Cond.methodLink RX5 19 yX5_goTo, Cond.instanceMethod yX5_goTo, Cond.selects RX5 yX5_goTo yX5_goTo, Cond.code yX5_goTo cX5_goTo 2 none, Cond.fieldLink RX5 9 "GalleryRays$Path" "corners" "[I", Cond.methodLink RX8 60 yX0_chordTime, Cond.static yX0_chordTime, Cond.initialized RX0, Cond.code yX0_chordTime cX0_chordTime 1 (some .int), Cond.constant RX0 21 (2000000), Cond.methodLink RX0 22 Lib.Math.abs.name, Cond.static Lib.Math.abs.name, Cond.initialized "java/lang/Math", Cond.code Lib.Math.abs.name Lib.Math.abs.code 1 (some .int), Cond.methodLink RX0 26 yX0_sine]
def wsX8_run_r3 : List Cond := [Cond.static yX0_sine, Cond.code yX0_sine cX0_sine 4 (some .int), Cond.constantLong RX0 15 (16), Cond.constantLong RX0 17 (3841992000), Cond.constantLong RX0 19 (4), Cond.methodLink RX8 66 yX8_begin, Cond.instanceMethod yX8_begin, Cond.selects RX8 yX8_begin yX8_begin, Cond.initialized RX8, Cond.code yX8_begin cX8_begin 6 none, Cond.fieldLink RX8 11 "GalleryRays$Shot" "rays" "[LGalleryRays$Ray;", Cond.methodLink RX8 78 yX7_start, Cond.instanceMethod yX7_start, Cond.selects RX7 yX7_start yX7_start, Cond.initialized RX7, Cond.code yX7_start cX7_start 6 none, Cond.fieldLink RX7 13 "GalleryRays$Ray" "place" "I", Cond.fieldLink RX7 16 "GalleryRays$Ray" "step" "I", Cond.fieldLink RX7 19 "GalleryRays$Ray" "energy" "I", Cond.fieldLink RX7 22 "GalleryRays$Ray" "arrival" "J", Cond.fieldLink RX7 26 "GalleryRays$Ray" "going" "Z", Cond.methodLink RX8 70 yX8_earliest, Cond.instanceMethod yX8_earliest, Cond.selects RX8 yX8_earliest yX8_earliest]
def wsX8_run_r4 : List Cond := [Cond.code yX8_earliest cX8_earliest 4 (some (.object "GalleryRays$Ray")), Cond.methodLink RX8 74 yX8_meet, Cond.instanceMethod yX8_meet, Cond.selects RX8 yX8_meet yX8_meet, Cond.code yX8_meet cX8_meet 4 none, Cond.methodLink RX8 95 yX0_placeAfter, Cond.static yX0_placeAfter, Cond.code yX0_placeAfter cX0_placeAfter 2 (some .int), Cond.methodLink RX0 9 yJ9_floorMod_7cf53, Cond.static yJ9_floorMod_7cf53, Cond.initialized RJ9, Cond.code yJ9_floorMod_7cf53 cJ9_floorMod_7cf53 3 (some .int), Cond.methodLink RX8 99 yX3_note, Cond.instanceMethod yX3_note, Cond.selects RX3 yX3_note yX3_note, Cond.code yX3_note cX3_note 3 none, Cond.fieldLink RX3 9 "GalleryRays$HitLog" "numbers" "[J", Cond.methodLink RX8 103 yX6_mark, Cond.instanceMethod yX6_mark, Cond.selects RX6 yX6_mark yX6_mark, Cond.code yX6_mark cX6_mark 4 none, Cond.methodLink RX6 19 yX0_isPlace, Cond.static yX0_isPlace, Cond.code yX0_isPlace cX0_isPlace 1 (some .boolean)]
def wsX8_run_r5 : List Cond := [Cond.methodLink RX8 109 yX5_goTo, Cond.methodLink RX8 117 yX7_lose, Cond.instanceMethod yX7_lose, Cond.selects RX7 yX7_lose yX7_lose, Cond.code yX7_lose cX7_lose 2 none, Cond.methodLink RX8 129 yX4_covers, Cond.instanceMethod yX4_covers, Cond.selects RX4 yX4_covers yX4_covers, Cond.initialized RX4, Cond.code yX4_covers cX4_covers 3 (some .boolean), Cond.methodLink RX4 49 yX4_numberOf, Cond.instanceMethod yX4_numberOf, Cond.selects RX4 yX4_numberOf yX4_numberOf, Cond.code yX4_numberOf cX4_numberOf 3 (some .int), Cond.constant RX4 48 (-100001), Cond.fieldLink RX4 9 "GalleryRays$Parts" "numbers" "[I", Cond.methodLink RX4 45 yX4_has, Cond.instanceMethod yX4_has, Cond.selects RX4 yX4_has yX4_has, Cond.code yX4_has cX4_has 2 (some .boolean), Cond.fieldLink RX4 41 "GalleryRays$Parts" "count" "I", Cond.methodLink RX4 53 yJ9_floorMod_7cf53, Cond.methodLink RX8 133 yX8_act, Cond.instanceMethod yX8_act]
def wsX8_run_r6 : List Cond := [Cond.selects RX8 yX8_act yX8_act, Cond.code yX8_act cX8_act 5 none, Cond.methodLink RX8 143 yX4_numberOf, Cond.methodLink RX8 146 yX7_tilt, Cond.instanceMethod yX7_tilt, Cond.selects RX7 yX7_tilt yX7_tilt, Cond.code yX7_tilt cX7_tilt 3 none, Cond.methodLink RX7 30 yX0_tilted, Cond.static yX0_tilted, Cond.code yX0_tilted cX0_tilted 3 (some .int), Cond.methodLink RX8 149 yX8_split, Cond.instanceMethod yX8_split, Cond.selects RX8 yX8_split yX8_split, Cond.code yX8_split cX8_split 6 none, Cond.methodLink RX8 160 yX0_tilted, Cond.methodLink RX8 153 yX1_hear, Cond.instanceMethod yX1_hear, Cond.selects RX1 yX1_hear yX1_hear, Cond.code yX1_hear cX1_hear 4 none, Cond.methodLink RX1 30 Lib.MathLoose.max_long.x, Cond.static Lib.MathLoose.max_long.x, Cond.code Lib.MathLoose.max_long.x Lib.MathLoose.max_long.code 4 (some .long), Cond.methodLink RX8 157 yX3_noteEcho, Cond.instanceMethod yX3_noteEcho]
def wsX8_run_r7 : List Cond := [Cond.selects RX3 yX3_noteEcho yX3_noteEcho, Cond.code yX3_noteEcho cX3_noteEcho 2 none, Cond.fieldLink RX3 15 "GalleryRays$HitLog" "echoes" "[I"]
def wsX8_run : List Cond := .code yX8_run cX8_run 7 none :: ((wsX8_run_r1 ++ (wsX8_run_r2 ++ (wsX8_run_r3 ++ (wsX8_run_r4 ++ (wsX8_run_r5 ++ (wsX8_run_r6 ++ wsX8_run_r7)))))) ++ wsX80 ++ wsX30 ++ wsX60 ++ wsX10 ++ wsX50 ++ wsX70 ++ wsX100 ++ wsX40)
def wsX9_init : List Cond := .code yX9_init cX9_init 1 none :: ([.methodLink RX9 3 objectInit, .instanceMethod objectInit, .code objectInit ⟨#[0xb1]⟩ 1 none, .arrayClass .char, .fieldLink RX9 9 "GalleryRays$Text" "signs" "[C", .classLink RX9 15 RX4, .instantiable RX4 2, .initialized RX4, .fieldLink RX9 18 "GalleryRays$Text" "found" "LGalleryRays$Parts;", .instanceMethod yX4_init, .code yX4_init cX4_init 1 none, .methodLink RX4 3 objectInit, .arrayClass .int, .fieldLink RX4 9 "GalleryRays$Parts" "numbers" "[I"] ++ wsX90 ++ wsX40)
def wsX9_append : List Cond := .code yX9_append cX9_append 2 none :: ([.fieldLink RX9 22 "GalleryRays$Text" "length" "I", .fieldLink RX9 9 "GalleryRays$Text" "signs" "[C"] ++ wsX90)
def wsX9_signAt : List Cond := .code yX9_signAt cX9_signAt 2 (some .char) :: ([.fieldLink RX9 22 "GalleryRays$Text" "length" "I", .fieldLink RX9 9 "GalleryRays$Text" "signs" "[C"] ++ wsX90)
def wsJ0_coder_7d493 : List Cond := .code yJ0_coder_7d493 cJ0_coder_7d493 1 (some .byte) :: ([.fieldLink RJ0 38 "java/lang/String" "COMPACT_STRINGS" "Z", .fieldLink RJ0 15 "java/lang/String" "coder" "B"])
def wsJ0_length_8abf5 : List Cond := .code yJ0_length_8abf5 cJ0_length_8abf5 1 (some .int) :: ([.fieldLink RJ0 9 "java/lang/String" "value" "[B", .methodLink RJ0 335 yJ0_coder_7d493, .instanceMethod yJ0_coder_7d493, .selects RJ0 yJ0_coder_7d493 yJ0_coder_7d493, .initialized RJ0, .code yJ0_coder_7d493 cJ0_coder_7d493 1 (some .byte), .fieldLink RJ0 38 "java/lang/String" "COMPACT_STRINGS" "Z", .fieldLink RJ0 15 "java/lang/String" "coder" "B"])
def wsJ0_isLatin1_aae02 : List Cond := .code yJ0_isLatin1_aae02 cJ0_isLatin1_aae02 1 (some .boolean) :: ([.fieldLink RJ0 38 "java/lang/String" "COMPACT_STRINGS" "Z", .fieldLink RJ0 15 "java/lang/String" "coder" "B"])
def wsJ3_checkIndex_8e157 : List Cond := .code yJ3_checkIndex_8e157 cJ3_checkIndex_8e157 3 (some .int) :: ([])
def wsJ0_checkIndex_df160 : List Cond := .code yJ0_checkIndex_df160 cJ0_checkIndex_df160 2 none :: ([.fieldLink RJ0 1053 "jdk/internal/util/Preconditions" "SIOOBE_FORMATTER" "Ljava/util/function/BiFunction;", .methodLink RJ0 1059 yJ3_checkIndex_8e157, .static yJ3_checkIndex_8e157, .initialized RJ3, .code yJ3_checkIndex_8e157 cJ3_checkIndex_8e157 3 (some .int)])
def wsJ1_charAt_3b067 : List Cond := .code yJ1_charAt_3b067 cJ1_charAt_3b067 2 (some .char) :: ([.methodLink RJ1 9 yJ0_checkIndex_df160, .static yJ0_checkIndex_df160, .initialized RJ0, .code yJ0_checkIndex_df160 cJ0_checkIndex_df160 2 none, .fieldLink RJ0 1053 "jdk/internal/util/Preconditions" "SIOOBE_FORMATTER" "Ljava/util/function/BiFunction;", .methodLink RJ0 1059 yJ3_checkIndex_8e157, .static yJ3_checkIndex_8e157, .initialized RJ3, .code yJ3_checkIndex_8e157 cJ3_checkIndex_8e157 3 (some .int)])
def wsJ2_length_9d52b : List Cond := .code yJ2_length_9d52b cJ2_length_9d52b 1 (some .int) :: ([])
def wsJ2_checkIndex_2214a : List Cond := .code yJ2_checkIndex_2214a cJ2_checkIndex_2214a 2 none :: ([.methodLink RJ2 48 yJ2_length_9d52b, .static yJ2_length_9d52b, .initialized RJ2, .code yJ2_length_9d52b cJ2_length_9d52b 1 (some .int), .methodLink RJ2 414 yJ0_checkIndex_df160, .static yJ0_checkIndex_df160, .initialized RJ0, .code yJ0_checkIndex_df160 cJ0_checkIndex_df160 2 none, .fieldLink RJ0 1053 "jdk/internal/util/Preconditions" "SIOOBE_FORMATTER" "Ljava/util/function/BiFunction;", .methodLink RJ0 1059 yJ3_checkIndex_8e157, .static yJ3_checkIndex_8e157, .initialized RJ3, .code yJ3_checkIndex_8e157 cJ3_checkIndex_8e157 3 (some .int)])
def wsJ2_getChar_3b067 : List Cond := .code yJ2_getChar_3b067 cJ2_getChar_3b067 2 (some .char) :: ([.fieldLink RJ2 44 "java/lang/StringUTF16" "$assertionsDisabled" "Z", .fieldLink RJ2 59 "java/lang/StringUTF16" "HI_BYTE_SHIFT" "I", .fieldLink RJ2 63 "java/lang/StringUTF16" "LO_BYTE_SHIFT" "I", .methodLink RJ2 48 yJ2_length_9d52b, .static yJ2_length_9d52b, .initialized RJ2, .code yJ2_length_9d52b cJ2_length_9d52b 1 (some .int)])
def wsJ2_charAt_3b067 : List Cond := .code yJ2_charAt_3b067 cJ2_charAt_3b067 2 (some .char) :: ([.methodLink RJ2 67 yJ2_checkIndex_2214a, .static yJ2_checkIndex_2214a, .initialized RJ2, .code yJ2_checkIndex_2214a cJ2_checkIndex_2214a 2 none, .methodLink RJ2 48 yJ2_length_9d52b, .static yJ2_length_9d52b, .code yJ2_length_9d52b cJ2_length_9d52b 1 (some .int), .methodLink RJ2 414 yJ0_checkIndex_df160, .static yJ0_checkIndex_df160, .initialized RJ0, .code yJ0_checkIndex_df160 cJ0_checkIndex_df160 2 none, .fieldLink RJ0 1053 "jdk/internal/util/Preconditions" "SIOOBE_FORMATTER" "Ljava/util/function/BiFunction;", .methodLink RJ0 1059 yJ3_checkIndex_8e157, .static yJ3_checkIndex_8e157, .initialized RJ3, .code yJ3_checkIndex_8e157 cJ3_checkIndex_8e157 3 (some .int), .methodLink RJ2 71 yJ2_getChar_3b067, .static yJ2_getChar_3b067, .code yJ2_getChar_3b067 cJ2_getChar_3b067 2 (some .char), .fieldLink RJ2 44 "java/lang/StringUTF16" "$assertionsDisabled" "Z", .fieldLink RJ2 59 "java/lang/StringUTF16" "HI_BYTE_SHIFT" "I", .fieldLink RJ2 63 "java/lang/StringUTF16" "LO_BYTE_SHIFT" "I"])
def wsJ0_charAt_5068e_r1 : List Cond := [Cond.fieldLink RJ0 9 "java/lang/String" "value" "[B", Cond.methodLink RJ0 492 yJ0_isLatin1_aae02, Cond.instanceMethod yJ0_isLatin1_aae02, Cond.selects RJ0 yJ0_isLatin1_aae02 yJ0_isLatin1_aae02, Cond.initialized RJ0, Cond.code yJ0_isLatin1_aae02 cJ0_isLatin1_aae02 1 (some .boolean), Cond.fieldLink RJ0 38 "java/lang/String" "COMPACT_STRINGS" "Z", Cond.fieldLink RJ0 15 "java/lang/String" "coder" "B", Cond.methodLink RJ0 495 yJ1_charAt_3b067, Cond.static yJ1_charAt_3b067, Cond.initialized RJ1, Cond.code yJ1_charAt_3b067 cJ1_charAt_3b067 2 (some .char), Cond.methodLink RJ1 9 yJ0_checkIndex_df160, Cond.static yJ0_checkIndex_df160, Cond.code yJ0_checkIndex_df160 cJ0_checkIndex_df160 2 none, Cond.fieldLink RJ0 1053 "jdk/internal/util/Preconditions" "SIOOBE_FORMATTER" "Ljava/util/function/BiFunction;", Cond.methodLink RJ0 1059 yJ3_checkIndex_8e157, Cond.static yJ3_checkIndex_8e157, Cond.initialized RJ3, Cond.code yJ3_checkIndex_8e157 cJ3_checkIndex_8e157 3 (some .int), Cond.methodLink RJ0 498 yJ2_charAt_3b067, Cond.static yJ2_charAt_3b067, Cond.initialized RJ2, Cond.code yJ2_charAt_3b067 cJ2_charAt_3b067 2 (some .char)]
def wsJ0_charAt_5068e_r2 : List Cond := [Cond.methodLink RJ2 67 yJ2_checkIndex_2214a, Cond.static yJ2_checkIndex_2214a, Cond.code yJ2_checkIndex_2214a cJ2_checkIndex_2214a 2 none, Cond.methodLink RJ2 48 yJ2_length_9d52b, Cond.static yJ2_length_9d52b, Cond.code yJ2_length_9d52b cJ2_length_9d52b 1 (some .int), Cond.methodLink RJ2 414 yJ0_checkIndex_df160, Cond.methodLink RJ2 71 yJ2_getChar_3b067, Cond.static yJ2_getChar_3b067, Cond.code yJ2_getChar_3b067 cJ2_getChar_3b067 2 (some .char), Cond.fieldLink RJ2 44 "java/lang/StringUTF16" "$assertionsDisabled" "Z", Cond.fieldLink RJ2 59 "java/lang/StringUTF16" "HI_BYTE_SHIFT" "I", Cond.fieldLink RJ2 63 "java/lang/StringUTF16" "LO_BYTE_SHIFT" "I"]
def wsJ0_charAt_5068e : List Cond := .code yJ0_charAt_5068e cJ0_charAt_5068e 2 (some .char) :: ((wsJ0_charAt_5068e_r1 ++ wsJ0_charAt_5068e_r2))
def wsX9_sameSigns_r1 : List Cond := [Cond.fieldLink RX9 29 "GalleryRays$Text" "at" "I", Cond.methodLink RX9 84 yJ0_length_8abf5, Cond.instanceMethod yJ0_length_8abf5, Cond.selects RJ0 yJ0_length_8abf5 yJ0_length_8abf5, Cond.initialized RJ0, Cond.code yJ0_length_8abf5 cJ0_length_8abf5 1 (some .int), Cond.fieldLink RJ0 9 "java/lang/String" "value" "[B", Cond.methodLink RJ0 335 yJ0_coder_7d493, Cond.instanceMethod yJ0_coder_7d493, Cond.selects RJ0 yJ0_coder_7d493 yJ0_coder_7d493, Cond.code yJ0_coder_7d493 cJ0_coder_7d493 1 (some .byte), Cond.fieldLink RJ0 38 "java/lang/String" "COMPACT_STRINGS" "Z", Cond.fieldLink RJ0 15 "java/lang/String" "coder" "B", Cond.methodLink RX9 72 yX9_signAt, Cond.instanceMethod yX9_signAt, Cond.selects RX9 yX9_signAt yX9_signAt, Cond.initialized RX9, Cond.code yX9_signAt cX9_signAt 2 (some .char), Cond.fieldLink RX9 22 "GalleryRays$Text" "length" "I", Cond.fieldLink RX9 9 "GalleryRays$Text" "signs" "[C", Cond.methodLink RX9 94 yJ0_charAt_5068e, Cond.instanceMethod yJ0_charAt_5068e, Cond.selects RJ0 yJ0_charAt_5068e yJ0_charAt_5068e, Cond.code yJ0_charAt_5068e cJ0_charAt_5068e 2 (some .char)]
def wsX9_sameSigns_r2 : List Cond := [Cond.methodLink RJ0 492 yJ0_isLatin1_aae02, Cond.instanceMethod yJ0_isLatin1_aae02, Cond.selects RJ0 yJ0_isLatin1_aae02 yJ0_isLatin1_aae02, Cond.code yJ0_isLatin1_aae02 cJ0_isLatin1_aae02 1 (some .boolean), Cond.methodLink RJ0 495 yJ1_charAt_3b067, Cond.static yJ1_charAt_3b067, Cond.initialized RJ1, Cond.code yJ1_charAt_3b067 cJ1_charAt_3b067 2 (some .char), Cond.methodLink RJ1 9 yJ0_checkIndex_df160, Cond.static yJ0_checkIndex_df160, Cond.code yJ0_checkIndex_df160 cJ0_checkIndex_df160 2 none, Cond.fieldLink RJ0 1053 "jdk/internal/util/Preconditions" "SIOOBE_FORMATTER" "Ljava/util/function/BiFunction;", Cond.methodLink RJ0 1059 yJ3_checkIndex_8e157, Cond.static yJ3_checkIndex_8e157, Cond.initialized RJ3, Cond.code yJ3_checkIndex_8e157 cJ3_checkIndex_8e157 3 (some .int), Cond.methodLink RJ0 498 yJ2_charAt_3b067, Cond.static yJ2_charAt_3b067, Cond.initialized RJ2, Cond.code yJ2_charAt_3b067 cJ2_charAt_3b067 2 (some .char), Cond.methodLink RJ2 67 yJ2_checkIndex_2214a, Cond.static yJ2_checkIndex_2214a, Cond.code yJ2_checkIndex_2214a cJ2_checkIndex_2214a 2 none, Cond.methodLink RJ2 48 yJ2_length_9d52b]
def wsX9_sameSigns_r3 : List Cond := [Cond.static yJ2_length_9d52b, Cond.code yJ2_length_9d52b cJ2_length_9d52b 1 (some .int), Cond.methodLink RJ2 414 yJ0_checkIndex_df160, Cond.methodLink RJ2 71 yJ2_getChar_3b067, Cond.static yJ2_getChar_3b067, Cond.code yJ2_getChar_3b067 cJ2_getChar_3b067 2 (some .char), Cond.fieldLink RJ2 44 "java/lang/StringUTF16" "$assertionsDisabled" "Z", Cond.fieldLink RJ2 59 "java/lang/StringUTF16" "HI_BYTE_SHIFT" "I", Cond.fieldLink RJ2 63 "java/lang/StringUTF16" "LO_BYTE_SHIFT" "I"]
def wsX9_sameSigns : List Cond := .code yX9_sameSigns cX9_sameSigns 3 (some .int) :: ((wsX9_sameSigns_r1 ++ (wsX9_sameSigns_r2 ++ wsX9_sameSigns_r3)) ++ wsX90)
def wsX9_takeWord_r1 : List Cond := [Cond.fieldLink RX9 32 "GalleryRays$Text" "broken" "Z", Cond.fieldLink RX9 29 "GalleryRays$Text" "at" "I", Cond.methodLink RX9 88 Lib.Math.max.name, Cond.static Lib.Math.max.name, Cond.initialized "java/lang/Math", Cond.code Lib.Math.max.name Lib.Math.max.code 2 (some .int), Cond.methodLink RX9 76 yX4_word, Cond.static yX4_word, Cond.initialized RX4, Cond.code yX4_word cX4_word 1 (some (.object "java/lang/String")), Cond.methodLink RX9 80 yX9_sameSigns, Cond.instanceMethod yX9_sameSigns, Cond.selects RX9 yX9_sameSigns yX9_sameSigns, Cond.initialized RX9, Cond.code yX9_sameSigns cX9_sameSigns 3 (some .int), Cond.methodLink RX9 84 yJ0_length_8abf5, Cond.instanceMethod yJ0_length_8abf5, Cond.selects RJ0 yJ0_length_8abf5 yJ0_length_8abf5, Cond.initialized RJ0, Cond.code yJ0_length_8abf5 cJ0_length_8abf5 1 (some .int), Cond.fieldLink RJ0 9 "java/lang/String" "value" "[B", Cond.methodLink RJ0 335 yJ0_coder_7d493, Cond.instanceMethod yJ0_coder_7d493, Cond.selects RJ0 yJ0_coder_7d493 yJ0_coder_7d493]
def wsX9_takeWord_r2 : List Cond := [Cond.code yJ0_coder_7d493 cJ0_coder_7d493 1 (some .byte), Cond.fieldLink RJ0 38 "java/lang/String" "COMPACT_STRINGS" "Z", Cond.fieldLink RJ0 15 "java/lang/String" "coder" "B", Cond.methodLink RX9 72 yX9_signAt, Cond.instanceMethod yX9_signAt, Cond.selects RX9 yX9_signAt yX9_signAt, Cond.code yX9_signAt cX9_signAt 2 (some .char), Cond.fieldLink RX9 22 "GalleryRays$Text" "length" "I", Cond.fieldLink RX9 9 "GalleryRays$Text" "signs" "[C", Cond.methodLink RX9 94 yJ0_charAt_5068e, Cond.instanceMethod yJ0_charAt_5068e, Cond.selects RJ0 yJ0_charAt_5068e yJ0_charAt_5068e, Cond.code yJ0_charAt_5068e cJ0_charAt_5068e 2 (some .char), Cond.methodLink RJ0 492 yJ0_isLatin1_aae02, Cond.instanceMethod yJ0_isLatin1_aae02, Cond.selects RJ0 yJ0_isLatin1_aae02 yJ0_isLatin1_aae02, Cond.code yJ0_isLatin1_aae02 cJ0_isLatin1_aae02 1 (some .boolean), Cond.methodLink RJ0 495 yJ1_charAt_3b067, Cond.static yJ1_charAt_3b067, Cond.initialized RJ1, Cond.code yJ1_charAt_3b067 cJ1_charAt_3b067 2 (some .char), Cond.methodLink RJ1 9 yJ0_checkIndex_df160, Cond.static yJ0_checkIndex_df160, Cond.code yJ0_checkIndex_df160 cJ0_checkIndex_df160 2 none]
def wsX9_takeWord_r3 : List Cond := [Cond.fieldLink RJ0 1053 "jdk/internal/util/Preconditions" "SIOOBE_FORMATTER" "Ljava/util/function/BiFunction;", Cond.methodLink RJ0 1059 yJ3_checkIndex_8e157, Cond.static yJ3_checkIndex_8e157, Cond.initialized RJ3, Cond.code yJ3_checkIndex_8e157 cJ3_checkIndex_8e157 3 (some .int), Cond.methodLink RJ0 498 yJ2_charAt_3b067, Cond.static yJ2_charAt_3b067, Cond.initialized RJ2, Cond.code yJ2_charAt_3b067 cJ2_charAt_3b067 2 (some .char), Cond.methodLink RJ2 67 yJ2_checkIndex_2214a, Cond.static yJ2_checkIndex_2214a, Cond.code yJ2_checkIndex_2214a cJ2_checkIndex_2214a 2 none, Cond.methodLink RJ2 48 yJ2_length_9d52b, Cond.static yJ2_length_9d52b, Cond.code yJ2_length_9d52b cJ2_length_9d52b 1 (some .int), Cond.methodLink RJ2 414 yJ0_checkIndex_df160, Cond.methodLink RJ2 71 yJ2_getChar_3b067, Cond.static yJ2_getChar_3b067, Cond.code yJ2_getChar_3b067 cJ2_getChar_3b067 2 (some .char), Cond.fieldLink RJ2 44 "java/lang/StringUTF16" "$assertionsDisabled" "Z", Cond.fieldLink RJ2 59 "java/lang/StringUTF16" "HI_BYTE_SHIFT" "I", Cond.fieldLink RJ2 63 "java/lang/StringUTF16" "LO_BYTE_SHIFT" "I"]
def wsX9_takeWord : List Cond := .code yX9_takeWord cX9_takeWord 5 (some .int) :: ((wsX9_takeWord_r1 ++ (wsX9_takeWord_r2 ++ wsX9_takeWord_r3)) ++ wsX90)
def wsX9_take : List Cond := .code yX9_take cX9_take 2 none :: ([.fieldLink RX9 32 "GalleryRays$Text" "broken" "Z", .fieldLink RX9 29 "GalleryRays$Text" "at" "I", .methodLink RX9 72 yX9_signAt, .instanceMethod yX9_signAt, .selects RX9 yX9_signAt yX9_signAt, .initialized RX9, .code yX9_signAt cX9_signAt 2 (some .char), .fieldLink RX9 22 "GalleryRays$Text" "length" "I", .fieldLink RX9 9 "GalleryRays$Text" "signs" "[C"] ++ wsX90)
def wsX9_isDigit : List Cond := .code yX9_isDigit cX9_isDigit 1 (some .boolean) :: ([])
def wsX9_takeNumber : List Cond := .code yX9_takeNumber cX9_takeNumber 7 (some .int) :: ([.fieldLink RX9 32 "GalleryRays$Text" "broken" "Z", .fieldLink RX9 29 "GalleryRays$Text" "at" "I", .fieldLink RX9 36 "GalleryRays$Text" "outOfRange" "I", .methodLink RX9 72 yX9_signAt, .instanceMethod yX9_signAt, .selects RX9 yX9_signAt yX9_signAt, .initialized RX9, .code yX9_signAt cX9_signAt 2 (some .char), .fieldLink RX9 22 "GalleryRays$Text" "length" "I", .fieldLink RX9 9 "GalleryRays$Text" "signs" "[C", .methodLink RX9 97 yX9_isDigit, .static yX9_isDigit, .code yX9_isDigit cX9_isDigit 1 (some .boolean)] ++ wsX90)
def wsX9_readOne_r1 : List Cond := [Cond.fieldLink RX9 32 "GalleryRays$Text" "broken" "Z", Cond.fieldLink RX9 36 "GalleryRays$Text" "outOfRange" "I", Cond.fieldLink RX9 18 "GalleryRays$Text" "found" "LGalleryRays$Parts;", Cond.methodLink RX9 46 yX9_takeWord, Cond.instanceMethod yX9_takeWord, Cond.selects RX9 yX9_takeWord yX9_takeWord, Cond.initialized RX9, Cond.code yX9_takeWord cX9_takeWord 5 (some .int), Cond.fieldLink RX9 29 "GalleryRays$Text" "at" "I", Cond.methodLink RX9 88 Lib.Math.max.name, Cond.static Lib.Math.max.name, Cond.initialized "java/lang/Math", Cond.code Lib.Math.max.name Lib.Math.max.code 2 (some .int), Cond.methodLink RX9 76 yX4_word, Cond.static yX4_word, Cond.initialized RX4, Cond.code yX4_word cX4_word 1 (some (.object "java/lang/String")), Cond.methodLink RX9 80 yX9_sameSigns, Cond.instanceMethod yX9_sameSigns, Cond.selects RX9 yX9_sameSigns yX9_sameSigns, Cond.code yX9_sameSigns cX9_sameSigns 3 (some .int), Cond.methodLink RX9 84 yJ0_length_8abf5, Cond.instanceMethod yJ0_length_8abf5, Cond.selects RJ0 yJ0_length_8abf5 yJ0_length_8abf5]
def wsX9_readOne_r2 : List Cond := [Cond.initialized RJ0, Cond.code yJ0_length_8abf5 cJ0_length_8abf5 1 (some .int), Cond.fieldLink RJ0 9 "java/lang/String" "value" "[B", Cond.methodLink RJ0 335 yJ0_coder_7d493, Cond.instanceMethod yJ0_coder_7d493, Cond.selects RJ0 yJ0_coder_7d493 yJ0_coder_7d493, Cond.code yJ0_coder_7d493 cJ0_coder_7d493 1 (some .byte), Cond.fieldLink RJ0 38 "java/lang/String" "COMPACT_STRINGS" "Z", Cond.fieldLink RJ0 15 "java/lang/String" "coder" "B", Cond.methodLink RX9 72 yX9_signAt, Cond.instanceMethod yX9_signAt, Cond.selects RX9 yX9_signAt yX9_signAt, Cond.code yX9_signAt cX9_signAt 2 (some .char), Cond.fieldLink RX9 22 "GalleryRays$Text" "length" "I", Cond.fieldLink RX9 9 "GalleryRays$Text" "signs" "[C", Cond.methodLink RX9 94 yJ0_charAt_5068e, Cond.instanceMethod yJ0_charAt_5068e, Cond.selects RJ0 yJ0_charAt_5068e yJ0_charAt_5068e, Cond.code yJ0_charAt_5068e cJ0_charAt_5068e 2 (some .char), Cond.methodLink RJ0 492 yJ0_isLatin1_aae02, Cond.instanceMethod yJ0_isLatin1_aae02, Cond.selects RJ0 yJ0_isLatin1_aae02 yJ0_isLatin1_aae02, Cond.code yJ0_isLatin1_aae02 cJ0_isLatin1_aae02 1 (some .boolean), Cond.methodLink RJ0 495 yJ1_charAt_3b067]
def wsX9_readOne_r3 : List Cond := [Cond.static yJ1_charAt_3b067, Cond.initialized RJ1, Cond.code yJ1_charAt_3b067 cJ1_charAt_3b067 2 (some .char), Cond.methodLink RJ1 9 yJ0_checkIndex_df160, Cond.static yJ0_checkIndex_df160, Cond.code yJ0_checkIndex_df160 cJ0_checkIndex_df160 2 none, Cond.fieldLink RJ0 1053 "jdk/internal/util/Preconditions" "SIOOBE_FORMATTER" "Ljava/util/function/BiFunction;", Cond.methodLink RJ0 1059 yJ3_checkIndex_8e157, Cond.static yJ3_checkIndex_8e157, Cond.initialized RJ3, Cond.code yJ3_checkIndex_8e157 cJ3_checkIndex_8e157 3 (some .int), Cond.methodLink RJ0 498 yJ2_charAt_3b067, Cond.static yJ2_charAt_3b067, Cond.initialized RJ2, Cond.code yJ2_charAt_3b067 cJ2_charAt_3b067 2 (some .char), Cond.methodLink RJ2 67 yJ2_checkIndex_2214a, Cond.static yJ2_checkIndex_2214a, Cond.code yJ2_checkIndex_2214a cJ2_checkIndex_2214a 2 none, Cond.methodLink RJ2 48 yJ2_length_9d52b, Cond.static yJ2_length_9d52b, Cond.code yJ2_length_9d52b cJ2_length_9d52b 1 (some .int), Cond.methodLink RJ2 414 yJ0_checkIndex_df160, Cond.methodLink RJ2 71 yJ2_getChar_3b067, Cond.static yJ2_getChar_3b067]
def wsX9_readOne_r4 : List Cond := [Cond.code yJ2_getChar_3b067 cJ2_getChar_3b067 2 (some .char), Cond.fieldLink RJ2 44 "java/lang/StringUTF16" "$assertionsDisabled" "Z", Cond.fieldLink RJ2 59 "java/lang/StringUTF16" "HI_BYTE_SHIFT" "I", Cond.fieldLink RJ2 63 "java/lang/StringUTF16" "LO_BYTE_SHIFT" "I", Cond.methodLink RX9 42 yX9_take, Cond.instanceMethod yX9_take, Cond.selects RX9 yX9_take yX9_take, Cond.code yX9_take cX9_take 2 none, Cond.methodLink RX9 50 yX9_takeNumber, Cond.instanceMethod yX9_takeNumber, Cond.selects RX9 yX9_takeNumber yX9_takeNumber, Cond.code yX9_takeNumber cX9_takeNumber 7 (some .int), Cond.methodLink RX9 97 yX9_isDigit, Cond.static yX9_isDigit, Cond.code yX9_isDigit cX9_isDigit 1 (some .boolean), Cond.methodLink RX9 54 yX4_hasBy, Cond.static yX4_hasBy, Cond.code yX4_hasBy cX4_hasBy 1 (some .boolean), Cond.methodLink RX4 28 yX4_mayBeNegative, Cond.static yX4_mayBeNegative, Cond.code yX4_mayBeNegative cX4_mayBeNegative 1 (some .boolean), Cond.methodLink RX9 58 yX4_leastBy, Cond.static yX4_leastBy, Cond.code yX4_leastBy cX4_leastBy 1 (some .int)]
def wsX9_readOne_r5 : List Cond := [Cond.methodLink RX9 62 yX4_mostBy, Cond.static yX4_mostBy, Cond.code yX4_mostBy cX4_mostBy 1 (some .int), Cond.methodLink RX9 65 yX4_mayBeNegative, Cond.methodLink RX9 68 yX4_append, Cond.instanceMethod yX4_append, Cond.selects RX4 yX4_append yX4_append, Cond.code yX4_append cX4_append 6 none, Cond.fieldLink RX4 41 "GalleryRays$Parts" "count" "I", Cond.fieldLink RX4 9 "GalleryRays$Parts" "numbers" "[I"]
def wsX9_readOne : List Cond := .code yX9_readOne cX9_readOne 5 none :: ((wsX9_readOne_r1 ++ (wsX9_readOne_r2 ++ (wsX9_readOne_r3 ++ (wsX9_readOne_r4 ++ wsX9_readOne_r5)))) ++ wsX90 ++ wsX40)
def wsX9_errorPlace_r1 : List Cond := [Cond.fieldLink RX9 18 "GalleryRays$Text" "found" "LGalleryRays$Parts;", Cond.fieldLink RX9 29 "GalleryRays$Text" "at" "I", Cond.fieldLink RX9 32 "GalleryRays$Text" "broken" "Z", Cond.fieldLink RX9 36 "GalleryRays$Text" "outOfRange" "I", Cond.fieldLink RX9 22 "GalleryRays$Text" "length" "I", Cond.methodLink RX9 39 yX9_readOne, Cond.instanceMethod yX9_readOne, Cond.selects RX9 yX9_readOne yX9_readOne, Cond.initialized RX9, Cond.code yX9_readOne cX9_readOne 5 none, Cond.methodLink RX9 46 yX9_takeWord, Cond.instanceMethod yX9_takeWord, Cond.selects RX9 yX9_takeWord yX9_takeWord, Cond.code yX9_takeWord cX9_takeWord 5 (some .int), Cond.methodLink RX9 88 Lib.Math.max.name, Cond.static Lib.Math.max.name, Cond.initialized "java/lang/Math", Cond.code Lib.Math.max.name Lib.Math.max.code 2 (some .int), Cond.methodLink RX9 76 yX4_word, Cond.static yX4_word, Cond.initialized RX4, Cond.code yX4_word cX4_word 1 (some (.object "java/lang/String")), Cond.methodLink RX9 80 yX9_sameSigns, Cond.instanceMethod yX9_sameSigns]
def wsX9_errorPlace_r2 : List Cond := [Cond.selects RX9 yX9_sameSigns yX9_sameSigns, Cond.code yX9_sameSigns cX9_sameSigns 3 (some .int), Cond.methodLink RX9 84 yJ0_length_8abf5, Cond.instanceMethod yJ0_length_8abf5, Cond.selects RJ0 yJ0_length_8abf5 yJ0_length_8abf5, Cond.initialized RJ0, Cond.code yJ0_length_8abf5 cJ0_length_8abf5 1 (some .int), Cond.fieldLink RJ0 9 "java/lang/String" "value" "[B", Cond.methodLink RJ0 335 yJ0_coder_7d493, Cond.instanceMethod yJ0_coder_7d493, Cond.selects RJ0 yJ0_coder_7d493 yJ0_coder_7d493, Cond.code yJ0_coder_7d493 cJ0_coder_7d493 1 (some .byte), Cond.fieldLink RJ0 38 "java/lang/String" "COMPACT_STRINGS" "Z", Cond.fieldLink RJ0 15 "java/lang/String" "coder" "B", Cond.methodLink RX9 72 yX9_signAt, Cond.instanceMethod yX9_signAt, Cond.selects RX9 yX9_signAt yX9_signAt, Cond.code yX9_signAt cX9_signAt 2 (some .char), Cond.fieldLink RX9 9 "GalleryRays$Text" "signs" "[C", Cond.methodLink RX9 94 yJ0_charAt_5068e, Cond.instanceMethod yJ0_charAt_5068e, Cond.selects RJ0 yJ0_charAt_5068e yJ0_charAt_5068e, Cond.code yJ0_charAt_5068e cJ0_charAt_5068e 2 (some .char), Cond.methodLink RJ0 492 yJ0_isLatin1_aae02]
def wsX9_errorPlace_r3 : List Cond := [Cond.instanceMethod yJ0_isLatin1_aae02, Cond.selects RJ0 yJ0_isLatin1_aae02 yJ0_isLatin1_aae02, Cond.code yJ0_isLatin1_aae02 cJ0_isLatin1_aae02 1 (some .boolean), Cond.methodLink RJ0 495 yJ1_charAt_3b067, Cond.static yJ1_charAt_3b067, Cond.initialized RJ1, Cond.code yJ1_charAt_3b067 cJ1_charAt_3b067 2 (some .char), Cond.methodLink RJ1 9 yJ0_checkIndex_df160, Cond.static yJ0_checkIndex_df160, Cond.code yJ0_checkIndex_df160 cJ0_checkIndex_df160 2 none, Cond.fieldLink RJ0 1053 "jdk/internal/util/Preconditions" "SIOOBE_FORMATTER" "Ljava/util/function/BiFunction;", Cond.methodLink RJ0 1059 yJ3_checkIndex_8e157, Cond.static yJ3_checkIndex_8e157, Cond.initialized RJ3, Cond.code yJ3_checkIndex_8e157 cJ3_checkIndex_8e157 3 (some .int), Cond.methodLink RJ0 498 yJ2_charAt_3b067, Cond.static yJ2_charAt_3b067, Cond.initialized RJ2, Cond.code yJ2_charAt_3b067 cJ2_charAt_3b067 2 (some .char), Cond.methodLink RJ2 67 yJ2_checkIndex_2214a, Cond.static yJ2_checkIndex_2214a, Cond.code yJ2_checkIndex_2214a cJ2_checkIndex_2214a 2 none, Cond.methodLink RJ2 48 yJ2_length_9d52b, Cond.static yJ2_length_9d52b]
def wsX9_errorPlace_r4 : List Cond := [Cond.code yJ2_length_9d52b cJ2_length_9d52b 1 (some .int), Cond.methodLink RJ2 414 yJ0_checkIndex_df160, Cond.methodLink RJ2 71 yJ2_getChar_3b067, Cond.static yJ2_getChar_3b067, Cond.code yJ2_getChar_3b067 cJ2_getChar_3b067 2 (some .char), Cond.fieldLink RJ2 44 "java/lang/StringUTF16" "$assertionsDisabled" "Z", Cond.fieldLink RJ2 59 "java/lang/StringUTF16" "HI_BYTE_SHIFT" "I", Cond.fieldLink RJ2 63 "java/lang/StringUTF16" "LO_BYTE_SHIFT" "I", Cond.methodLink RX9 42 yX9_take, Cond.instanceMethod yX9_take, Cond.selects RX9 yX9_take yX9_take, Cond.code yX9_take cX9_take 2 none, Cond.methodLink RX9 50 yX9_takeNumber, Cond.instanceMethod yX9_takeNumber, Cond.selects RX9 yX9_takeNumber yX9_takeNumber, Cond.code yX9_takeNumber cX9_takeNumber 7 (some .int), Cond.methodLink RX9 97 yX9_isDigit, Cond.static yX9_isDigit, Cond.code yX9_isDigit cX9_isDigit 1 (some .boolean), Cond.methodLink RX9 54 yX4_hasBy, Cond.static yX4_hasBy, Cond.code yX4_hasBy cX4_hasBy 1 (some .boolean), Cond.methodLink RX4 28 yX4_mayBeNegative, Cond.static yX4_mayBeNegative]
def wsX9_errorPlace_r5 : List Cond := [Cond.code yX4_mayBeNegative cX4_mayBeNegative 1 (some .boolean), Cond.methodLink RX9 58 yX4_leastBy, Cond.static yX4_leastBy, Cond.code yX4_leastBy cX4_leastBy 1 (some .int), Cond.methodLink RX9 62 yX4_mostBy, Cond.static yX4_mostBy, Cond.code yX4_mostBy cX4_mostBy 1 (some .int), Cond.methodLink RX9 65 yX4_mayBeNegative, Cond.methodLink RX9 68 yX4_append, Cond.instanceMethod yX4_append, Cond.selects RX4 yX4_append yX4_append, Cond.code yX4_append cX4_append 6 none, Cond.fieldLink RX4 41 "GalleryRays$Parts" "count" "I", Cond.fieldLink RX4 9 "GalleryRays$Parts" "numbers" "[I"]
def wsX9_errorPlace : List Cond := .code yX9_errorPlace cX9_errorPlace 2 (some .int) :: ((wsX9_errorPlace_r1 ++ (wsX9_errorPlace_r2 ++ (wsX9_errorPlace_r3 ++ (wsX9_errorPlace_r4 ++ wsX9_errorPlace_r5)))) ++ wsX90 ++ wsX40)
def wsX11_init_r1 : List Cond := [Cond.methodLink RX11 1 objectInit, Cond.instanceMethod objectInit, Cond.code objectInit ⟨#[0xb1]⟩ 1 none, Cond.classLink RX11 7 RX10, Cond.instantiable RX10 3, Cond.initialized RX10, Cond.fieldLink RX11 10 "GalleryRays" "wall" "LGalleryRays$Wall;", Cond.classLink RX11 16 RX2, Cond.instantiable RX2 2, Cond.initialized RX2, Cond.fieldLink RX11 19 "GalleryRays" "history" "LGalleryRays$History;", Cond.classLink RX11 23 RX9, Cond.instantiable RX9 6, Cond.initialized RX9, Cond.fieldLink RX11 26 "GalleryRays" "text" "LGalleryRays$Text;", Cond.classLink RX11 30 RX8, Cond.instantiable RX8 6, Cond.initialized RX8, Cond.fieldLink RX11 33 "GalleryRays" "shot" "LGalleryRays$Shot;", Cond.instanceMethod yX10_init, Cond.code yX10_init cX10_init 1 none, Cond.methodLink RX10 1 objectInit, Cond.classLink RX10 7 RX4, Cond.instantiable RX4 2]
def wsX11_init_r2 : List Cond := [Cond.initialized RX4, Cond.fieldLink RX10 10 "GalleryRays$Wall" "parts" "LGalleryRays$Parts;", Cond.fieldLink RX10 16 "GalleryRays$Wall" "loss" "I", Cond.fieldLink RX10 20 "GalleryRays$Wall" "threshold" "I", Cond.instanceMethod yX4_init, Cond.code yX4_init cX4_init 1 none, Cond.methodLink RX4 3 objectInit, Cond.arrayClass .int, Cond.fieldLink RX4 9 "GalleryRays$Parts" "numbers" "[I", Cond.methodLink RX11 18 yX2_init, Cond.instanceMethod yX2_init, Cond.code yX2_init cX2_init 2 none, Cond.methodLink RX2 3 objectInit, Cond.classLink RX2 9 RX10, Cond.fieldLink RX2 11 "GalleryRays$History" "states" "[LGalleryRays$Wall;", Cond.instanceMethod yX9_init, Cond.code yX9_init cX9_init 1 none, Cond.methodLink RX9 3 objectInit, Cond.arrayClass .char, Cond.fieldLink RX9 9 "GalleryRays$Text" "signs" "[C", Cond.classLink RX9 15 RX4, Cond.fieldLink RX9 18 "GalleryRays$Text" "found" "LGalleryRays$Parts;", Cond.methodLink RX11 32 yX8_init, Cond.instanceMethod yX8_init]
def wsX11_init_r3 : List Cond := [Cond.code yX8_init cX8_init 2 none, Cond.methodLink RX8 3 objectInit, Cond.classLink RX8 9 RX7, Cond.fieldLink RX8 11 "GalleryRays$Shot" "rays" "[LGalleryRays$Ray;", Cond.classLink RX8 17 RX3, Cond.instantiable RX3 5, Cond.initialized RX3, Cond.fieldLink RX8 20 "GalleryRays$Shot" "log" "LGalleryRays$HitLog;", Cond.classLink RX8 24 RX6, Cond.instantiable RX6 2, Cond.initialized RX6, Cond.fieldLink RX8 27 "GalleryRays$Shot" "marks" "LGalleryRays$PlaceMarks;", Cond.classLink RX8 31 RX1, Cond.instantiable RX1 1, Cond.initialized RX1, Cond.fieldLink RX8 34 "GalleryRays$Shot" "ears" "LGalleryRays$Ears;", Cond.classLink RX8 38 RX5, Cond.instantiable RX5 2, Cond.initialized RX5, Cond.fieldLink RX8 41 "GalleryRays$Shot" "path" "LGalleryRays$Path;", Cond.instantiable RX7 6, Cond.initialized RX7, Cond.instanceMethod yX3_init, Cond.code yX3_init cX3_init 1 none]
def wsX11_init_r4 : List Cond := [Cond.methodLink RX3 3 objectInit, Cond.arrayClass .long, Cond.fieldLink RX3 9 "GalleryRays$HitLog" "numbers" "[J", Cond.fieldLink RX3 15 "GalleryRays$HitLog" "echoes" "[I", Cond.instanceMethod yX6_init, Cond.code yX6_init cX6_init 1 none, Cond.methodLink RX6 3 objectInit, Cond.fieldLink RX6 9 "GalleryRays$PlaceMarks" "words" "[J", Cond.methodLink RX8 33 yX1_init, Cond.instanceMethod yX1_init, Cond.code yX1_init cX1_init 1 none, Cond.methodLink RX1 3 objectInit, Cond.fieldLink RX1 9 "GalleryRays$Ears" "numbers" "[J", Cond.methodLink RX1 15 yX1_forget, Cond.instanceMethod yX1_forget, Cond.selects RX1 yX1_forget yX1_forget, Cond.code yX1_forget cX1_forget 3 none, Cond.constantLong RX1 18 (-100009), Cond.instanceMethod yX5_init, Cond.code yX5_init cX5_init 1 none, Cond.methodLink RX5 3 objectInit, Cond.fieldLink RX5 9 "GalleryRays$Path" "corners" "[I", Cond.methodLink RX8 45 yX7_init, Cond.instanceMethod yX7_init]
def wsX11_init_r5 : List Cond := [Cond.code yX7_init cX7_init 2 none, Cond.methodLink RX7 1 objectInit, Cond.fieldLink RX7 7 "GalleryRays$Ray" "number" "I"]
def wsX11_init : List Cond := .code yX11_init cX11_init 1 none :: ((wsX11_init_r1 ++ (wsX11_init_r2 ++ (wsX11_init_r3 ++ (wsX11_init_r4 ++ wsX11_init_r5)))) ++ wsX100 ++ wsX110 ++ wsX20 ++ wsX90 ++ wsX80 ++ wsX40 ++ wsX30 ++ wsX60 ++ wsX10 ++ wsX50 ++ wsX70)
def wsX11_add_r1 : List Cond := [Cond.constant RX11 43 (-100001), Cond.fieldLink RX11 10 "GalleryRays" "wall" "LGalleryRays$Wall;", Cond.constant RX11 52 (-100003), Cond.fieldLink RX11 19 "GalleryRays" "history" "LGalleryRays$History;", Cond.methodLink RX11 37 yX4_isAllowed, Cond.static yX4_isAllowed, Cond.initialized RX4, Cond.code yX4_isAllowed cX4_isAllowed 4 (some .boolean), Cond.methodLink RX4 15 yX0_isPlace, Cond.static yX0_isPlace, Cond.initialized RX0, Cond.code yX0_isPlace cX0_isPlace 1 (some .boolean), Cond.methodLink RX4 21 yX4_leastBy, Cond.static yX4_leastBy, Cond.code yX4_leastBy cX4_leastBy 1 (some .int), Cond.methodLink RX4 28 yX4_mayBeNegative, Cond.static yX4_mayBeNegative, Cond.code yX4_mayBeNegative cX4_mayBeNegative 1 (some .boolean), Cond.methodLink RX4 25 yX4_mostBy, Cond.static yX4_mostBy, Cond.code yX4_mostBy cX4_mostBy 1 (some .int), Cond.methodLink RX11 53 yX2_keep, Cond.instanceMethod yX2_keep, Cond.selects RX2 yX2_keep yX2_keep]
def wsX11_add_r2 : List Cond := [Cond.initialized RX2, Cond.code yX2_keep cX2_keep 2 none, Cond.fieldLink RX2 18 "GalleryRays$History" "count" "I", Cond.fieldLink RX2 11 "GalleryRays$History" "states" "[LGalleryRays$Wall;", Cond.methodLink RX2 22 yX2_dropOldest, Cond.instanceMethod yX2_dropOldest, Cond.selects RX2 yX2_dropOldest yX2_dropOldest, Cond.code yX2_dropOldest cX2_dropOldest 3 none, Cond.methodLink RX2 25 yX10_copyFrom, Cond.instanceMethod yX10_copyFrom, Cond.selects RX10 yX10_copyFrom yX10_copyFrom, Cond.initialized RX10, Cond.code yX10_copyFrom cX10_copyFrom 2 none, Cond.fieldLink RX10 10 "GalleryRays$Wall" "parts" "LGalleryRays$Parts;", Cond.fieldLink RX10 16 "GalleryRays$Wall" "loss" "I", Cond.fieldLink RX10 20 "GalleryRays$Wall" "threshold" "I", Cond.methodLink RX10 23 yX4_copyFrom, Cond.instanceMethod yX4_copyFrom, Cond.selects RX4 yX4_copyFrom yX4_copyFrom, Cond.code yX4_copyFrom cX4_copyFrom 2 none, Cond.fieldLink RX4 9 "GalleryRays$Parts" "numbers" "[I", Cond.fieldLink RX4 41 "GalleryRays$Parts" "count" "I", Cond.methodLink RX4 62 arraycopyName, Cond.native arraycopyName]
def wsX11_add_r3 : List Cond := [Cond.static arraycopyName, Cond.initialized "java/lang/System", Cond.methodLink RX11 57 yX4_append, Cond.instanceMethod yX4_append, Cond.selects RX4 yX4_append yX4_append, Cond.code yX4_append cX4_append 6 none]
def wsX11_add : List Cond := .code yX11_add cX11_add 5 (some .int) :: ((wsX11_add_r1 ++ (wsX11_add_r2 ++ wsX11_add_r3)) ++ wsX110 ++ wsX100 ++ wsX40 ++ wsX20)
def wsX11_remove_r1 : List Cond := [Cond.fieldLink RX11 10 "GalleryRays" "wall" "LGalleryRays$Wall;", Cond.constant RX11 43 (-100001), Cond.fieldLink RX11 19 "GalleryRays" "history" "LGalleryRays$History;", Cond.methodLink RX11 61 yX4_has, Cond.instanceMethod yX4_has, Cond.selects RX4 yX4_has yX4_has, Cond.initialized RX4, Cond.code yX4_has cX4_has 2 (some .boolean), Cond.fieldLink RX4 41 "GalleryRays$Parts" "count" "I", Cond.methodLink RX11 53 yX2_keep, Cond.instanceMethod yX2_keep, Cond.selects RX2 yX2_keep yX2_keep, Cond.initialized RX2, Cond.code yX2_keep cX2_keep 2 none, Cond.fieldLink RX2 18 "GalleryRays$History" "count" "I", Cond.fieldLink RX2 11 "GalleryRays$History" "states" "[LGalleryRays$Wall;", Cond.methodLink RX2 22 yX2_dropOldest, Cond.instanceMethod yX2_dropOldest, Cond.selects RX2 yX2_dropOldest yX2_dropOldest, Cond.code yX2_dropOldest cX2_dropOldest 3 none, Cond.methodLink RX2 25 yX10_copyFrom, Cond.instanceMethod yX10_copyFrom, Cond.selects RX10 yX10_copyFrom yX10_copyFrom, Cond.initialized RX10]
def wsX11_remove_r2 : List Cond := [Cond.code yX10_copyFrom cX10_copyFrom 2 none, Cond.fieldLink RX10 10 "GalleryRays$Wall" "parts" "LGalleryRays$Parts;", Cond.fieldLink RX10 16 "GalleryRays$Wall" "loss" "I", Cond.fieldLink RX10 20 "GalleryRays$Wall" "threshold" "I", Cond.methodLink RX10 23 yX4_copyFrom, Cond.instanceMethod yX4_copyFrom, Cond.selects RX4 yX4_copyFrom yX4_copyFrom, Cond.code yX4_copyFrom cX4_copyFrom 2 none, Cond.fieldLink RX4 9 "GalleryRays$Parts" "numbers" "[I", Cond.methodLink RX4 62 arraycopyName, Cond.native arraycopyName, Cond.static arraycopyName, Cond.initialized "java/lang/System", Cond.methodLink RX11 65 yX4_takeOut, Cond.instanceMethod yX4_takeOut, Cond.selects RX4 yX4_takeOut yX4_takeOut, Cond.code yX4_takeOut cX4_takeOut 4 none, Cond.methodLink RX4 45 yX4_has]
def wsX11_remove : List Cond := .code yX11_remove cX11_remove 2 (some .int) :: ((wsX11_remove_r1 ++ wsX11_remove_r2) ++ wsX110 ++ wsX100 ++ wsX40 ++ wsX20)
def wsX11_part : List Cond := .code yX11_part cX11_part 3 (some .int) :: ([.fieldLink RX11 10 "GalleryRays" "wall" "LGalleryRays$Wall;", .methodLink RX11 69 yX4_numberOf, .instanceMethod yX4_numberOf, .selects RX4 yX4_numberOf yX4_numberOf, .initialized RX4, .code yX4_numberOf cX4_numberOf 3 (some .int), .constant RX4 48 (-100001), .fieldLink RX4 9 "GalleryRays$Parts" "numbers" "[I", .methodLink RX4 45 yX4_has, .instanceMethod yX4_has, .selects RX4 yX4_has yX4_has, .code yX4_has cX4_has 2 (some .boolean), .fieldLink RX4 41 "GalleryRays$Parts" "count" "I"] ++ wsX110 ++ wsX100 ++ wsX40)
def wsX11_parts : List Cond := .code yX11_parts cX11_parts 1 (some .int) :: ([.fieldLink RX11 10 "GalleryRays" "wall" "LGalleryRays$Wall;"] ++ wsX110 ++ wsX100 ++ wsX40)
def wsX11_setLoss_r1 : List Cond := [Cond.constant RX11 43 (-100001), Cond.fieldLink RX11 19 "GalleryRays" "history" "LGalleryRays$History;", Cond.fieldLink RX11 10 "GalleryRays" "wall" "LGalleryRays$Wall;", Cond.methodLink RX11 53 yX2_keep, Cond.instanceMethod yX2_keep, Cond.selects RX2 yX2_keep yX2_keep, Cond.initialized RX2, Cond.code yX2_keep cX2_keep 2 none, Cond.fieldLink RX2 18 "GalleryRays$History" "count" "I", Cond.fieldLink RX2 11 "GalleryRays$History" "states" "[LGalleryRays$Wall;", Cond.methodLink RX2 22 yX2_dropOldest, Cond.instanceMethod yX2_dropOldest, Cond.selects RX2 yX2_dropOldest yX2_dropOldest, Cond.code yX2_dropOldest cX2_dropOldest 3 none, Cond.methodLink RX2 25 yX10_copyFrom, Cond.instanceMethod yX10_copyFrom, Cond.selects RX10 yX10_copyFrom yX10_copyFrom, Cond.initialized RX10, Cond.code yX10_copyFrom cX10_copyFrom 2 none, Cond.fieldLink RX10 10 "GalleryRays$Wall" "parts" "LGalleryRays$Parts;", Cond.fieldLink RX10 16 "GalleryRays$Wall" "loss" "I", Cond.fieldLink RX10 20 "GalleryRays$Wall" "threshold" "I", Cond.methodLink RX10 23 yX4_copyFrom, Cond.instanceMethod yX4_copyFrom]
def wsX11_setLoss_r2 : List Cond := [Cond.selects RX4 yX4_copyFrom yX4_copyFrom, Cond.initialized RX4, Cond.code yX4_copyFrom cX4_copyFrom 2 none, Cond.fieldLink RX4 9 "GalleryRays$Parts" "numbers" "[I", Cond.fieldLink RX4 41 "GalleryRays$Parts" "count" "I", Cond.methodLink RX4 62 arraycopyName, Cond.native arraycopyName, Cond.static arraycopyName, Cond.initialized "java/lang/System"]
def wsX11_setLoss : List Cond := .code yX11_setLoss cX11_setLoss 3 (some .int) :: ((wsX11_setLoss_r1 ++ wsX11_setLoss_r2) ++ wsX110 ++ wsX100 ++ wsX20 ++ wsX40)
def wsX11_setThreshold_r1 : List Cond := [Cond.constant RX11 76 (1000000), Cond.constant RX11 43 (-100001), Cond.fieldLink RX11 19 "GalleryRays" "history" "LGalleryRays$History;", Cond.fieldLink RX11 10 "GalleryRays" "wall" "LGalleryRays$Wall;", Cond.methodLink RX11 53 yX2_keep, Cond.instanceMethod yX2_keep, Cond.selects RX2 yX2_keep yX2_keep, Cond.initialized RX2, Cond.code yX2_keep cX2_keep 2 none, Cond.fieldLink RX2 18 "GalleryRays$History" "count" "I", Cond.fieldLink RX2 11 "GalleryRays$History" "states" "[LGalleryRays$Wall;", Cond.methodLink RX2 22 yX2_dropOldest, Cond.instanceMethod yX2_dropOldest, Cond.selects RX2 yX2_dropOldest yX2_dropOldest, Cond.code yX2_dropOldest cX2_dropOldest 3 none, Cond.methodLink RX2 25 yX10_copyFrom, Cond.instanceMethod yX10_copyFrom, Cond.selects RX10 yX10_copyFrom yX10_copyFrom, Cond.initialized RX10, Cond.code yX10_copyFrom cX10_copyFrom 2 none, Cond.fieldLink RX10 10 "GalleryRays$Wall" "parts" "LGalleryRays$Parts;", Cond.fieldLink RX10 16 "GalleryRays$Wall" "loss" "I", Cond.fieldLink RX10 20 "GalleryRays$Wall" "threshold" "I", Cond.methodLink RX10 23 yX4_copyFrom]
def wsX11_setThreshold_r2 : List Cond := [Cond.instanceMethod yX4_copyFrom, Cond.selects RX4 yX4_copyFrom yX4_copyFrom, Cond.initialized RX4, Cond.code yX4_copyFrom cX4_copyFrom 2 none, Cond.fieldLink RX4 9 "GalleryRays$Parts" "numbers" "[I", Cond.fieldLink RX4 41 "GalleryRays$Parts" "count" "I", Cond.methodLink RX4 62 arraycopyName, Cond.native arraycopyName, Cond.static arraycopyName, Cond.initialized "java/lang/System"]
def wsX11_setThreshold : List Cond := .code yX11_setThreshold cX11_setThreshold 3 (some .int) :: ((wsX11_setThreshold_r1 ++ wsX11_setThreshold_r2) ++ wsX110 ++ wsX100 ++ wsX20 ++ wsX40)
def wsX11_type : List Cond := .code yX11_type cX11_type 2 (some .int) :: ([.constant RX11 43 (-100001), .fieldLink RX11 26 "GalleryRays" "text" "LGalleryRays$Text;", .constant RX11 52 (-100003), .methodLink RX11 83 yX9_append, .instanceMethod yX9_append, .selects RX9 yX9_append yX9_append, .initialized RX9, .code yX9_append cX9_append 2 none, .fieldLink RX9 22 "GalleryRays$Text" "length" "I", .fieldLink RX9 9 "GalleryRays$Text" "signs" "[C"] ++ wsX110 ++ wsX90)
def wsX11_clear : List Cond := .code yX11_clear cX11_clear 2 (some .int) :: ([.fieldLink RX11 26 "GalleryRays" "text" "LGalleryRays$Text;"] ++ wsX110 ++ wsX90)
def wsX11_read_r1 : List Cond := [Cond.fieldLink RX11 26 "GalleryRays" "text" "LGalleryRays$Text;", Cond.fieldLink RX11 10 "GalleryRays" "wall" "LGalleryRays$Wall;", Cond.constant RX11 52 (-100003), Cond.fieldLink RX11 19 "GalleryRays" "history" "LGalleryRays$History;", Cond.methodLink RX11 86 yX9_errorPlace, Cond.instanceMethod yX9_errorPlace, Cond.selects RX9 yX9_errorPlace yX9_errorPlace, Cond.initialized RX9, Cond.code yX9_errorPlace cX9_errorPlace 2 (some .int), Cond.fieldLink RX9 18 "GalleryRays$Text" "found" "LGalleryRays$Parts;", Cond.fieldLink RX9 29 "GalleryRays$Text" "at" "I", Cond.fieldLink RX9 32 "GalleryRays$Text" "broken" "Z", Cond.fieldLink RX9 36 "GalleryRays$Text" "outOfRange" "I", Cond.fieldLink RX9 22 "GalleryRays$Text" "length" "I", Cond.methodLink RX9 39 yX9_readOne, Cond.instanceMethod yX9_readOne, Cond.selects RX9 yX9_readOne yX9_readOne, Cond.code yX9_readOne cX9_readOne 5 none, Cond.methodLink RX9 46 yX9_takeWord, Cond.instanceMethod yX9_takeWord, Cond.selects RX9 yX9_takeWord yX9_takeWord, Cond.code yX9_takeWord cX9_takeWord 5 (some .int), Cond.methodLink RX9 88 Lib.Math.max.name, Cond.static Lib.Math.max.name]
def wsX11_read_r2 : List Cond := [Cond.initialized "java/lang/Math", Cond.code Lib.Math.max.name Lib.Math.max.code 2 (some .int), Cond.methodLink RX9 76 yX4_word, Cond.static yX4_word, Cond.initialized RX4, Cond.code yX4_word cX4_word 1 (some (.object "java/lang/String")), Cond.methodLink RX9 80 yX9_sameSigns, Cond.instanceMethod yX9_sameSigns, Cond.selects RX9 yX9_sameSigns yX9_sameSigns, Cond.code yX9_sameSigns cX9_sameSigns 3 (some .int), Cond.methodLink RX9 84 yJ0_length_8abf5, Cond.instanceMethod yJ0_length_8abf5, Cond.selects RJ0 yJ0_length_8abf5 yJ0_length_8abf5, Cond.initialized RJ0, Cond.code yJ0_length_8abf5 cJ0_length_8abf5 1 (some .int), Cond.fieldLink RJ0 9 "java/lang/String" "value" "[B", Cond.methodLink RJ0 335 yJ0_coder_7d493, Cond.instanceMethod yJ0_coder_7d493, Cond.selects RJ0 yJ0_coder_7d493 yJ0_coder_7d493, Cond.code yJ0_coder_7d493 cJ0_coder_7d493 1 (some .byte), Cond.fieldLink RJ0 38 "java/lang/String" "COMPACT_STRINGS" "Z", Cond.fieldLink RJ0 15 "java/lang/String" "coder" "B", Cond.methodLink RX9 72 yX9_signAt, Cond.instanceMethod yX9_signAt]
def wsX11_read_r3 : List Cond := [Cond.selects RX9 yX9_signAt yX9_signAt, Cond.code yX9_signAt cX9_signAt 2 (some .char), Cond.fieldLink RX9 9 "GalleryRays$Text" "signs" "[C", Cond.methodLink RX9 94 yJ0_charAt_5068e, Cond.instanceMethod yJ0_charAt_5068e, Cond.selects RJ0 yJ0_charAt_5068e yJ0_charAt_5068e, Cond.code yJ0_charAt_5068e cJ0_charAt_5068e 2 (some .char), Cond.methodLink RJ0 492 yJ0_isLatin1_aae02, Cond.instanceMethod yJ0_isLatin1_aae02, Cond.selects RJ0 yJ0_isLatin1_aae02 yJ0_isLatin1_aae02, Cond.code yJ0_isLatin1_aae02 cJ0_isLatin1_aae02 1 (some .boolean), Cond.methodLink RJ0 495 yJ1_charAt_3b067, Cond.static yJ1_charAt_3b067, Cond.initialized RJ1, Cond.code yJ1_charAt_3b067 cJ1_charAt_3b067 2 (some .char), Cond.methodLink RJ1 9 yJ0_checkIndex_df160, Cond.static yJ0_checkIndex_df160, Cond.code yJ0_checkIndex_df160 cJ0_checkIndex_df160 2 none, Cond.fieldLink RJ0 1053 "jdk/internal/util/Preconditions" "SIOOBE_FORMATTER" "Ljava/util/function/BiFunction;", Cond.methodLink RJ0 1059 yJ3_checkIndex_8e157, Cond.static yJ3_checkIndex_8e157, Cond.initialized RJ3, Cond.code yJ3_checkIndex_8e157 cJ3_checkIndex_8e157 3 (some .int), Cond.methodLink RJ0 498 yJ2_charAt_3b067]
def wsX11_read_r4 : List Cond := [Cond.static yJ2_charAt_3b067, Cond.initialized RJ2, Cond.code yJ2_charAt_3b067 cJ2_charAt_3b067 2 (some .char), Cond.methodLink RJ2 67 yJ2_checkIndex_2214a, Cond.static yJ2_checkIndex_2214a, Cond.code yJ2_checkIndex_2214a cJ2_checkIndex_2214a 2 none, Cond.methodLink RJ2 48 yJ2_length_9d52b, Cond.static yJ2_length_9d52b, Cond.code yJ2_length_9d52b cJ2_length_9d52b 1 (some .int), Cond.methodLink RJ2 414 yJ0_checkIndex_df160, Cond.methodLink RJ2 71 yJ2_getChar_3b067, Cond.static yJ2_getChar_3b067, Cond.code yJ2_getChar_3b067 cJ2_getChar_3b067 2 (some .char), Cond.fieldLink RJ2 44 "java/lang/StringUTF16" "$assertionsDisabled" "Z", Cond.fieldLink RJ2 59 "java/lang/StringUTF16" "HI_BYTE_SHIFT" "I", Cond.fieldLink RJ2 63 "java/lang/StringUTF16" "LO_BYTE_SHIFT" "I", Cond.methodLink RX9 42 yX9_take, Cond.instanceMethod yX9_take, Cond.selects RX9 yX9_take yX9_take, Cond.code yX9_take cX9_take 2 none, Cond.methodLink RX9 50 yX9_takeNumber, Cond.instanceMethod yX9_takeNumber, Cond.selects RX9 yX9_takeNumber yX9_takeNumber, Cond.code yX9_takeNumber cX9_takeNumber 7 (some .int)]
def wsX11_read_r5 : List Cond := [Cond.methodLink RX9 97 yX9_isDigit, Cond.static yX9_isDigit, Cond.code yX9_isDigit cX9_isDigit 1 (some .boolean), Cond.methodLink RX9 54 yX4_hasBy, Cond.static yX4_hasBy, Cond.code yX4_hasBy cX4_hasBy 1 (some .boolean), Cond.methodLink RX4 28 yX4_mayBeNegative, Cond.static yX4_mayBeNegative, Cond.code yX4_mayBeNegative cX4_mayBeNegative 1 (some .boolean), Cond.methodLink RX9 58 yX4_leastBy, Cond.static yX4_leastBy, Cond.code yX4_leastBy cX4_leastBy 1 (some .int), Cond.methodLink RX9 62 yX4_mostBy, Cond.static yX4_mostBy, Cond.code yX4_mostBy cX4_mostBy 1 (some .int), Cond.methodLink RX9 65 yX4_mayBeNegative, Cond.methodLink RX9 68 yX4_append, Cond.instanceMethod yX4_append, Cond.selects RX4 yX4_append yX4_append, Cond.code yX4_append cX4_append 6 none, Cond.fieldLink RX4 41 "GalleryRays$Parts" "count" "I", Cond.fieldLink RX4 9 "GalleryRays$Parts" "numbers" "[I", Cond.methodLink RX11 53 yX2_keep, Cond.instanceMethod yX2_keep]
def wsX11_read_r6 : List Cond := [Cond.selects RX2 yX2_keep yX2_keep, Cond.initialized RX2, Cond.code yX2_keep cX2_keep 2 none, Cond.fieldLink RX2 18 "GalleryRays$History" "count" "I", Cond.fieldLink RX2 11 "GalleryRays$History" "states" "[LGalleryRays$Wall;", Cond.methodLink RX2 22 yX2_dropOldest, Cond.instanceMethod yX2_dropOldest, Cond.selects RX2 yX2_dropOldest yX2_dropOldest, Cond.code yX2_dropOldest cX2_dropOldest 3 none, Cond.methodLink RX2 25 yX10_copyFrom, Cond.instanceMethod yX10_copyFrom, Cond.selects RX10 yX10_copyFrom yX10_copyFrom, Cond.initialized RX10, Cond.code yX10_copyFrom cX10_copyFrom 2 none, Cond.fieldLink RX10 10 "GalleryRays$Wall" "parts" "LGalleryRays$Parts;", Cond.fieldLink RX10 16 "GalleryRays$Wall" "loss" "I", Cond.fieldLink RX10 20 "GalleryRays$Wall" "threshold" "I", Cond.methodLink RX10 23 yX4_copyFrom, Cond.instanceMethod yX4_copyFrom, Cond.selects RX4 yX4_copyFrom yX4_copyFrom, Cond.code yX4_copyFrom cX4_copyFrom 2 none, Cond.methodLink RX4 62 arraycopyName, Cond.native arraycopyName, Cond.static arraycopyName]
def wsX11_read_r7 : List Cond := [Cond.initialized "java/lang/System", Cond.methodLink RX11 93 yX4_appendAll, Cond.instanceMethod yX4_appendAll, Cond.selects RX4 yX4_appendAll yX4_appendAll, Cond.code yX4_appendAll cX4_appendAll 3 none, Cond.methodLink RX4 49 yX4_numberOf, Cond.instanceMethod yX4_numberOf, Cond.selects RX4 yX4_numberOf yX4_numberOf, Cond.code yX4_numberOf cX4_numberOf 3 (some .int), Cond.constant RX4 48 (-100001), Cond.methodLink RX4 45 yX4_has, Cond.instanceMethod yX4_has, Cond.selects RX4 yX4_has yX4_has, Cond.code yX4_has cX4_has 2 (some .boolean), Cond.methodLink RX4 58 yX4_append]
def wsX11_read : List Cond := .code yX11_read cX11_read 2 (some .int) :: ((wsX11_read_r1 ++ (wsX11_read_r2 ++ (wsX11_read_r3 ++ (wsX11_read_r4 ++ (wsX11_read_r5 ++ (wsX11_read_r6 ++ wsX11_read_r7)))))) ++ wsX110 ++ wsX100 ++ wsX40 ++ wsX90 ++ wsX20)
def wsX11_shoot_r1 : List Cond := [Cond.constant RX11 76 (1000000), Cond.constant RX11 43 (-100001), Cond.fieldLink RX11 33 "GalleryRays" "shot" "LGalleryRays$Shot;", Cond.fieldLink RX11 10 "GalleryRays" "wall" "LGalleryRays$Wall;", Cond.methodLink RX11 97 yX0_isPlace, Cond.static yX0_isPlace, Cond.initialized RX0, Cond.code yX0_isPlace cX0_isPlace 1 (some .boolean), Cond.methodLink RX11 102 yX0_isStep, Cond.static yX0_isStep, Cond.code yX0_isStep cX0_isStep 1 (some .boolean), Cond.methodLink RX11 105 yX8_run, Cond.instanceMethod yX8_run, Cond.selects RX8 yX8_run yX8_run, Cond.initialized RX8, Cond.code yX8_run cX8_run 7 none, Cond.fieldLink RX8 20 "GalleryRays$Shot" "log" "LGalleryRays$HitLog;", Cond.fieldLink RX8 27 "GalleryRays$Shot" "marks" "LGalleryRays$PlaceMarks;", Cond.fieldLink RX8 34 "GalleryRays$Shot" "ears" "LGalleryRays$Ears;", Cond.fieldLink RX8 41 "GalleryRays$Shot" "path" "LGalleryRays$Path;", Cond.fieldLink RX8 56 "GalleryRays$Shot" "rayCount" "I", Cond.methodLink RX8 48 yX3_forget, Cond.instanceMethod yX3_forget, Cond.selects RX3 yX3_forget yX3_forget]
def wsX11_shoot_r2 : List Cond := [Cond.initialized RX3, Cond.code yX3_forget cX3_forget 1 none, Cond.fieldLink RX3 19 "GalleryRays$HitLog" "count" "I", Cond.fieldLink RX3 23 "GalleryRays$HitLog" "echoCount" "I", Cond.fieldLink RX3 26 "GalleryRays$HitLog" "energySum" "J", Cond.methodLink RX8 51 yX6_forget, Cond.instanceMethod yX6_forget, Cond.selects RX6 yX6_forget yX6_forget, Cond.initialized RX6, Cond.code yX6_forget cX6_forget 2 none, Cond.fieldLink RX6 9 "GalleryRays$PlaceMarks" "words" "[J", Cond.fieldLink RX6 15 "GalleryRays$PlaceMarks" "count" "I", Cond.methodLink RX8 52 yX1_forget, Cond.instanceMethod yX1_forget, Cond.selects RX1 yX1_forget yX1_forget, Cond.initialized RX1, Cond.code yX1_forget cX1_forget 3 none, Cond.fieldLink RX1 9 "GalleryRays$Ears" "numbers" "[J", Cond.constantLong RX1 18 (-100009), Cond.methodLink RX8 53 yX5_startAt, Cond.instanceMethod yX5_startAt, Cond.selects RX5 yX5_startAt yX5_startAt, Cond.initialized RX5, Cond.code yX5_startAt cX5_startAt 2 none]
def wsX11_shoot_r3 : List Cond := [Cond.fieldLink RX5 15 "GalleryRays$Path" "count" "I", Cond.methodLink RX5 19 yX5_goTo, Cond.instanceMethod yX5_goTo, Cond.selects RX5 yX5_goTo yX5_goTo, Cond.code yX5_goTo cX5_goTo 2 none, Cond.fieldLink RX5 9 "GalleryRays$Path" "corners" "[I", Cond.methodLink RX8 60 yX0_chordTime, Cond.static yX0_chordTime, Cond.code yX0_chordTime cX0_chordTime 1 (some .int), Cond.constant RX0 21 (2000000), Cond.methodLink RX0 22 Lib.Math.abs.name, Cond.static Lib.Math.abs.name, Cond.initialized "java/lang/Math", Cond.code Lib.Math.abs.name Lib.Math.abs.code 1 (some .int), Cond.methodLink RX0 26 yX0_sine, Cond.static yX0_sine, Cond.code yX0_sine cX0_sine 4 (some .int), Cond.constantLong RX0 15 (16), Cond.constantLong RX0 17 (3841992000), Cond.constantLong RX0 19 (4), Cond.methodLink RX8 66 yX8_begin, Cond.instanceMethod yX8_begin, Cond.selects RX8 yX8_begin yX8_begin, Cond.code yX8_begin cX8_begin 6 none]
def wsX11_shoot_r4 : List Cond := [Cond.fieldLink RX8 11 "GalleryRays$Shot" "rays" "[LGalleryRays$Ray;", Cond.methodLink RX8 78 yX7_start, Cond.instanceMethod yX7_start, Cond.selects RX7 yX7_start yX7_start, Cond.initialized RX7, Cond.code yX7_start cX7_start 6 none, Cond.fieldLink RX7 13 "GalleryRays$Ray" "place" "I", Cond.fieldLink RX7 16 "GalleryRays$Ray" "step" "I", Cond.fieldLink RX7 19 "GalleryRays$Ray" "energy" "I", Cond.fieldLink RX7 22 "GalleryRays$Ray" "arrival" "J", Cond.fieldLink RX7 26 "GalleryRays$Ray" "going" "Z", Cond.methodLink RX8 70 yX8_earliest, Cond.instanceMethod yX8_earliest, Cond.selects RX8 yX8_earliest yX8_earliest, Cond.code yX8_earliest cX8_earliest 4 (some (.object "GalleryRays$Ray")), Cond.methodLink RX8 74 yX8_meet, Cond.instanceMethod yX8_meet, Cond.selects RX8 yX8_meet yX8_meet, Cond.code yX8_meet cX8_meet 4 none, Cond.methodLink RX8 95 yX0_placeAfter, Cond.static yX0_placeAfter, Cond.code yX0_placeAfter cX0_placeAfter 2 (some .int), Cond.methodLink RX0 9 yJ9_floorMod_7cf53, Cond.static yJ9_floorMod_7cf53]
def wsX11_shoot_r5 : List Cond := [Cond.initialized RJ9, Cond.code yJ9_floorMod_7cf53 cJ9_floorMod_7cf53 3 (some .int), Cond.methodLink RX8 99 yX3_note, Cond.instanceMethod yX3_note, Cond.selects RX3 yX3_note yX3_note, Cond.code yX3_note cX3_note 3 none, Cond.fieldLink RX3 9 "GalleryRays$HitLog" "numbers" "[J", Cond.methodLink RX8 103 yX6_mark, Cond.instanceMethod yX6_mark, Cond.selects RX6 yX6_mark yX6_mark, Cond.code yX6_mark cX6_mark 4 none, Cond.methodLink RX6 19 yX0_isPlace, Cond.methodLink RX8 109 yX5_goTo, Cond.methodLink RX8 117 yX7_lose, Cond.instanceMethod yX7_lose, Cond.selects RX7 yX7_lose yX7_lose, Cond.code yX7_lose cX7_lose 2 none, Cond.methodLink RX8 129 yX4_covers, Cond.instanceMethod yX4_covers, Cond.selects RX4 yX4_covers yX4_covers, Cond.initialized RX4, Cond.code yX4_covers cX4_covers 3 (some .boolean), Cond.methodLink RX4 49 yX4_numberOf, Cond.instanceMethod yX4_numberOf]
def wsX11_shoot_r6 : List Cond := [Cond.selects RX4 yX4_numberOf yX4_numberOf, Cond.code yX4_numberOf cX4_numberOf 3 (some .int), Cond.constant RX4 48 (-100001), Cond.fieldLink RX4 9 "GalleryRays$Parts" "numbers" "[I", Cond.methodLink RX4 45 yX4_has, Cond.instanceMethod yX4_has, Cond.selects RX4 yX4_has yX4_has, Cond.code yX4_has cX4_has 2 (some .boolean), Cond.fieldLink RX4 41 "GalleryRays$Parts" "count" "I", Cond.methodLink RX4 53 yJ9_floorMod_7cf53, Cond.methodLink RX8 133 yX8_act, Cond.instanceMethod yX8_act, Cond.selects RX8 yX8_act yX8_act, Cond.code yX8_act cX8_act 5 none, Cond.methodLink RX8 143 yX4_numberOf, Cond.methodLink RX8 146 yX7_tilt, Cond.instanceMethod yX7_tilt, Cond.selects RX7 yX7_tilt yX7_tilt, Cond.code yX7_tilt cX7_tilt 3 none, Cond.methodLink RX7 30 yX0_tilted, Cond.static yX0_tilted, Cond.code yX0_tilted cX0_tilted 3 (some .int), Cond.methodLink RX8 149 yX8_split, Cond.instanceMethod yX8_split]
def wsX11_shoot_r7 : List Cond := [Cond.selects RX8 yX8_split yX8_split, Cond.code yX8_split cX8_split 6 none, Cond.methodLink RX8 160 yX0_tilted, Cond.methodLink RX8 153 yX1_hear, Cond.instanceMethod yX1_hear, Cond.selects RX1 yX1_hear yX1_hear, Cond.code yX1_hear cX1_hear 4 none, Cond.methodLink RX1 30 Lib.MathLoose.max_long.x, Cond.static Lib.MathLoose.max_long.x, Cond.code Lib.MathLoose.max_long.x Lib.MathLoose.max_long.code 4 (some .long), Cond.methodLink RX8 157 yX3_noteEcho, Cond.instanceMethod yX3_noteEcho, Cond.selects RX3 yX3_noteEcho yX3_noteEcho, Cond.code yX3_noteEcho cX3_noteEcho 2 none, Cond.fieldLink RX3 15 "GalleryRays$HitLog" "echoes" "[I"]
def wsX11_shoot : List Cond := .code yX11_shoot cX11_shoot 4 (some .int) :: ((wsX11_shoot_r1 ++ (wsX11_shoot_r2 ++ (wsX11_shoot_r3 ++ (wsX11_shoot_r4 ++ (wsX11_shoot_r5 ++ (wsX11_shoot_r6 ++ wsX11_shoot_r7)))))) ++ wsX110 ++ wsX80 ++ wsX30 ++ wsX60 ++ wsX10 ++ wsX50 ++ wsX70 ++ wsX100 ++ wsX40)
def wsX11_hits : List Cond := .code yX11_hits cX11_hits 1 (some .int) :: ([.fieldLink RX11 33 "GalleryRays" "shot" "LGalleryRays$Shot;"] ++ wsX110 ++ wsX80 ++ wsX30)
def wsX11_hit : List Cond := .code yX11_hit cX11_hit 3 (some .long) :: ([.fieldLink RX11 33 "GalleryRays" "shot" "LGalleryRays$Shot;", .methodLink RX11 116 yX3_numberOf, .instanceMethod yX3_numberOf, .selects RX3 yX3_numberOf yX3_numberOf, .initialized RX3, .code yX3_numberOf cX3_numberOf 3 (some .long), .fieldLink RX3 19 "GalleryRays$HitLog" "count" "I", .constantLong RX3 47 (-100001), .fieldLink RX3 9 "GalleryRays$HitLog" "numbers" "[J"] ++ wsX110 ++ wsX80 ++ wsX30)
def wsX11_rays : List Cond := .code yX11_rays cX11_rays 1 (some .int) :: ([.fieldLink RX11 33 "GalleryRays" "shot" "LGalleryRays$Shot;"] ++ wsX110 ++ wsX80)
def wsX11_coverage : List Cond := .code yX11_coverage cX11_coverage 1 (some .int) :: ([.fieldLink RX11 33 "GalleryRays" "shot" "LGalleryRays$Shot;"] ++ wsX110 ++ wsX80 ++ wsX60)
def wsX11_gap : List Cond := .code yX11_gap cX11_gap 1 (some .int) :: ([.fieldLink RX11 33 "GalleryRays" "shot" "LGalleryRays$Shot;", .methodLink RX11 129 yX6_longestGap, .instanceMethod yX6_longestGap, .selects RX6 yX6_longestGap yX6_longestGap, .initialized RX6, .code yX6_longestGap cX6_longestGap 9 (some .int), .fieldLink RX6 15 "GalleryRays$PlaceMarks" "count" "I", .fieldLink RX6 9 "GalleryRays$PlaceMarks" "words" "[J", .methodLink RX6 34 Lib.Math.max.name, .static Lib.Math.max.name, .initialized "java/lang/Math", .code Lib.Math.max.name Lib.Math.max.code 2 (some .int), .methodLink RX6 31 yX6_lowestBit, .static yX6_lowestBit, .code yX6_lowestBit cX6_lowestBit 2 (some .int), .methodLink RX6 25 yJ13_bitCount_95d88, .static yJ13_bitCount_95d88, .initialized RJ13, .code yJ13_bitCount_95d88 cJ13_bitCount_95d88 2 (some .int), .constantLong RJ13 314 (6148914691236517205), .constantLong RJ13 316 (3689348814741910323), .constantLong RJ13 318 (1085102592571150095)] ++ wsX110 ++ wsX80 ++ wsX60)
def wsX11_heard : List Cond := .code yX11_heard cX11_heard 3 (some .long) :: ([.fieldLink RX11 33 "GalleryRays" "shot" "LGalleryRays$Shot;", .methodLink RX11 136 yX1_numberOf, .instanceMethod yX1_numberOf, .selects RX1 yX1_numberOf yX1_numberOf, .initialized RX1, .code yX1_numberOf cX1_numberOf 3 (some .long), .constantLong RX1 36 (-100001), .fieldLink RX1 9 "GalleryRays$Ears" "numbers" "[J"] ++ wsX110 ++ wsX80 ++ wsX10)
def wsX11_echo : List Cond := .code yX11_echo cX11_echo 2 (some .int) :: ([.fieldLink RX11 33 "GalleryRays" "shot" "LGalleryRays$Shot;", .methodLink RX11 139 yX3_echoAt, .instanceMethod yX3_echoAt, .selects RX3 yX3_echoAt yX3_echoAt, .initialized RX3, .code yX3_echoAt cX3_echoAt 2 (some .int), .constant RX3 49 (-100001), .fieldLink RX3 23 "GalleryRays$HitLog" "echoCount" "I", .fieldLink RX3 15 "GalleryRays$HitLog" "echoes" "[I", .constant RX3 50 (-100009)] ++ wsX110 ++ wsX80 ++ wsX30)
def wsX11_mean : List Cond := .code yX11_mean cX11_mean 1 (some .float) :: ([.fieldLink RX11 33 "GalleryRays" "shot" "LGalleryRays$Shot;", .methodLink RX11 143 yX3_meanEnergy, .instanceMethod yX3_meanEnergy, .selects RX3 yX3_meanEnergy yX3_meanEnergy, .initialized RX3, .code yX3_meanEnergy cX3_meanEnergy 1 (some .float), .fieldLink RX3 19 "GalleryRays$HitLog" "count" "I", .fieldLink RX3 26 "GalleryRays$HitLog" "energySum" "J"] ++ wsX110 ++ wsX80 ++ wsX30)
def wsX11_crossings_r1 : List Cond := [Cond.constant RX11 43 (-100001), Cond.fieldLink RX11 33 "GalleryRays" "shot" "LGalleryRays$Shot;", Cond.methodLink RX11 151 yX5_crossingPairs, Cond.instanceMethod yX5_crossingPairs, Cond.selects RX5 yX5_crossingPairs yX5_crossingPairs, Cond.initialized RX5, Cond.code yX5_crossingPairs cX5_crossingPairs 6 (some .int), Cond.fieldLink RX5 15 "GalleryRays$Path" "count" "I", Cond.methodLink RX5 23 Lib.Math.min.name, Cond.static Lib.Math.min.name, Cond.initialized "java/lang/Math", Cond.code Lib.Math.min.name Lib.Math.min.code 2 (some .int), Cond.fieldLink RX5 9 "GalleryRays$Path" "corners" "[I", Cond.methodLink RX5 29 yX5_cross, Cond.static yX5_cross, Cond.code yX5_cross cX5_cross 6 (some .boolean), Cond.methodLink RX5 33 Lib.Math.max.name, Cond.static Lib.Math.max.name, Cond.code Lib.Math.max.name Lib.Math.max.code 2 (some .int), Cond.methodLink RX5 36 yX5_isBetween, Cond.static yX5_isBetween, Cond.code yX5_isBetween cX5_isBetween 3 (some .boolean), Cond.methodLink RX5 40 yX5_isBeyond, Cond.static yX5_isBeyond]
def wsX11_crossings_r2 : List Cond := [Cond.code yX5_isBeyond cX5_isBeyond 3 (some .boolean)]
def wsX11_crossings : List Cond := .code yX11_crossings cX11_crossings 2 (some .int) :: ((wsX11_crossings_r1 ++ wsX11_crossings_r2) ++ wsX110 ++ wsX80 ++ wsX50)
def wsX11_time : List Cond := .code yX11_time cX11_time 2 (some .int) :: ([.constant RX11 43 (-100001), .methodLink RX11 102 yX0_isStep, .static yX0_isStep, .initialized RX0, .code yX0_isStep cX0_isStep 1 (some .boolean), .methodLink RX11 156 yX0_chordTime, .static yX0_chordTime, .code yX0_chordTime cX0_chordTime 1 (some .int), .constant RX0 21 (2000000), .methodLink RX0 22 Lib.Math.abs.name, .static Lib.Math.abs.name, .initialized "java/lang/Math", .code Lib.Math.abs.name Lib.Math.abs.code 1 (some .int), .methodLink RX0 26 yX0_sine, .static yX0_sine, .code yX0_sine cX0_sine 4 (some .int), .constantLong RX0 15 (16), .constantLong RX0 17 (3841992000), .constantLong RX0 19 (4)])
def wsX11_caustic : List Cond := .code yX11_caustic cX11_caustic 2 (some .int) :: ([.constant RX11 43 (-100001), .methodLink RX11 102 yX0_isStep, .static yX0_isStep, .initialized RX0, .code yX0_isStep cX0_isStep 1 (some .boolean), .methodLink RX11 159 yX0_causticRadius, .static yX0_causticRadius, .code yX0_causticRadius cX0_causticRadius 1 (some .int), .constant RX0 31 (1000000), .methodLink RX0 22 Lib.Math.abs.name, .static Lib.Math.abs.name, .initialized "java/lang/Math", .code Lib.Math.abs.name Lib.Math.abs.code 1 (some .int), .methodLink RX0 26 yX0_sine, .static yX0_sine, .code yX0_sine cX0_sine 4 (some .int), .constantLong RX0 15 (16), .constantLong RX0 17 (3841992000), .constantLong RX0 19 (4)])
def wsX11_order : List Cond := .code yX11_order cX11_order 2 (some .int) :: ([.constant RX11 43 (-100001), .methodLink RX11 102 yX0_isStep, .static yX0_isStep, .initialized RX0, .code yX0_isStep cX0_isStep 1 (some .boolean), .methodLink RX11 162 yX0_sharedDivisor, .static yX0_sharedDivisor, .code yX0_sharedDivisor cX0_sharedDivisor 5 (some .int), .methodLink RX0 22 Lib.Math.abs.name, .static Lib.Math.abs.name, .initialized "java/lang/Math", .code Lib.Math.abs.name Lib.Math.abs.code 1 (some .int)])
def wsX11_turns : List Cond := .code yX11_turns cX11_turns 2 (some .int) :: ([.methodLink RX11 165 Lib.Math.abs.name, .static Lib.Math.abs.name, .initialized "java/lang/Math", .code Lib.Math.abs.name Lib.Math.abs.code 1 (some .int), .constant RX11 43 (-100001), .methodLink RX11 102 yX0_isStep, .static yX0_isStep, .initialized RX0, .code yX0_isStep cX0_isStep 1 (some .boolean), .methodLink RX11 162 yX0_sharedDivisor, .static yX0_sharedDivisor, .code yX0_sharedDivisor cX0_sharedDivisor 5 (some .int), .methodLink RX0 22 Lib.Math.abs.name])
def wsX11_aim : List Cond := .code yX11_aim cX11_aim 5 (some .int) :: ([.constant RX11 43 (-100001), .constant RX11 173 (-100009), .methodLink RX11 97 yX0_isPlace, .static yX0_isPlace, .initialized RX0, .code yX0_isPlace cX0_isPlace 1 (some .boolean), .methodLink RX11 170 yX0_smallestStep, .static yX0_smallestStep, .code yX0_smallestStep cX0_smallestStep 5 (some .int), .methodLink RX0 32 yX0_isStep, .static yX0_isStep, .code yX0_isStep cX0_isStep 1 (some .boolean), .methodLink RX0 36 yX0_isBetter, .static yX0_isBetter, .code yX0_isBetter cX0_isBetter 4 (some .boolean), .methodLink RX0 22 Lib.Math.abs.name, .static Lib.Math.abs.name, .initialized "java/lang/Math", .code Lib.Math.abs.name Lib.Math.abs.code 1 (some .int)])
def wsX11_widest : List Cond := .code yX11_widest cX11_widest 2 (some .int) :: ([.constant RX11 76 (1000000), .constant RX11 43 (-100001), .constant RX11 173 (-100009), .methodLink RX11 159 yX0_causticRadius, .static yX0_causticRadius, .initialized RX0, .code yX0_causticRadius cX0_causticRadius 1 (some .int), .constant RX0 31 (1000000), .methodLink RX0 22 Lib.Math.abs.name, .static Lib.Math.abs.name, .initialized "java/lang/Math", .code Lib.Math.abs.name Lib.Math.abs.code 1 (some .int), .methodLink RX0 26 yX0_sine, .static yX0_sine, .code yX0_sine cX0_sine 4 (some .int), .constantLong RX0 15 (16), .constantLong RX0 17 (3841992000), .constantLong RX0 19 (4)])
def wsX11_undo_r1 : List Cond := [Cond.fieldLink RX11 19 "GalleryRays" "history" "LGalleryRays$History;", Cond.constant RX11 173 (-100009), Cond.fieldLink RX11 10 "GalleryRays" "wall" "LGalleryRays$Wall;", Cond.methodLink RX11 175 yX2_restore, Cond.instanceMethod yX2_restore, Cond.selects RX2 yX2_restore yX2_restore, Cond.initialized RX2, Cond.code yX2_restore cX2_restore 2 none, Cond.fieldLink RX2 18 "GalleryRays$History" "count" "I", Cond.fieldLink RX2 11 "GalleryRays$History" "states" "[LGalleryRays$Wall;", Cond.methodLink RX2 25 yX10_copyFrom, Cond.instanceMethod yX10_copyFrom, Cond.selects RX10 yX10_copyFrom yX10_copyFrom, Cond.initialized RX10, Cond.code yX10_copyFrom cX10_copyFrom 2 none, Cond.fieldLink RX10 10 "GalleryRays$Wall" "parts" "LGalleryRays$Parts;", Cond.fieldLink RX10 16 "GalleryRays$Wall" "loss" "I", Cond.fieldLink RX10 20 "GalleryRays$Wall" "threshold" "I", Cond.methodLink RX10 23 yX4_copyFrom, Cond.instanceMethod yX4_copyFrom, Cond.selects RX4 yX4_copyFrom yX4_copyFrom, Cond.initialized RX4, Cond.code yX4_copyFrom cX4_copyFrom 2 none, Cond.fieldLink RX4 9 "GalleryRays$Parts" "numbers" "[I"]
def wsX11_undo_r2 : List Cond := [Cond.fieldLink RX4 41 "GalleryRays$Parts" "count" "I", Cond.methodLink RX4 62 arraycopyName, Cond.native arraycopyName, Cond.static arraycopyName, Cond.initialized "java/lang/System"]
def wsX11_undo : List Cond := .code yX11_undo cX11_undo 1 (some .int) :: ((wsX11_undo_r1 ++ wsX11_undo_r2) ++ wsX110 ++ wsX20 ++ wsX100 ++ wsX40)
def wsX11_mixed : List Cond := .code yX11_mixed cX11_mixed 4 (some .long) :: ([.constantLong RX11 204 (31)])
def wsX11_fingerprint_r1 : List Cond := [Cond.constantLong RX11 178 (127), Cond.fieldLink RX11 10 "GalleryRays" "wall" "LGalleryRays$Wall;", Cond.methodLink RX11 180 yX11_parts, Cond.instanceMethod yX11_parts, Cond.selects RX11 yX11_parts yX11_parts, Cond.initialized RX11, Cond.code yX11_parts cX11_parts 1 (some .int), Cond.methodLink RX11 182 yX11_mixed, Cond.static yX11_mixed, Cond.code yX11_mixed cX11_mixed 4 (some .long), Cond.constantLong RX11 204 (31), Cond.methodLink RX11 186 yX11_part, Cond.instanceMethod yX11_part, Cond.selects RX11 yX11_part yX11_part, Cond.code yX11_part cX11_part 3 (some .int), Cond.methodLink RX11 69 yX4_numberOf, Cond.instanceMethod yX4_numberOf, Cond.selects RX4 yX4_numberOf yX4_numberOf, Cond.initialized RX4, Cond.code yX4_numberOf cX4_numberOf 3 (some .int), Cond.constant RX4 48 (-100001), Cond.fieldLink RX4 9 "GalleryRays$Parts" "numbers" "[I", Cond.methodLink RX4 45 yX4_has, Cond.instanceMethod yX4_has]
def wsX11_fingerprint_r2 : List Cond := [Cond.selects RX4 yX4_has yX4_has, Cond.code yX4_has cX4_has 2 (some .boolean), Cond.fieldLink RX4 41 "GalleryRays$Parts" "count" "I", Cond.methodLink RX11 189 yX11_hits, Cond.instanceMethod yX11_hits, Cond.selects RX11 yX11_hits yX11_hits, Cond.code yX11_hits cX11_hits 1 (some .int), Cond.fieldLink RX11 33 "GalleryRays" "shot" "LGalleryRays$Shot;", Cond.methodLink RX11 192 yX11_rays, Cond.instanceMethod yX11_rays, Cond.selects RX11 yX11_rays yX11_rays, Cond.code yX11_rays cX11_rays 1 (some .int), Cond.methodLink RX11 195 yX11_coverage, Cond.instanceMethod yX11_coverage, Cond.selects RX11 yX11_coverage yX11_coverage, Cond.code yX11_coverage cX11_coverage 1 (some .int), Cond.methodLink RX11 198 yX11_hit, Cond.instanceMethod yX11_hit, Cond.selects RX11 yX11_hit yX11_hit, Cond.code yX11_hit cX11_hit 3 (some .long), Cond.methodLink RX11 116 yX3_numberOf, Cond.instanceMethod yX3_numberOf, Cond.selects RX3 yX3_numberOf yX3_numberOf, Cond.initialized RX3]
def wsX11_fingerprint_r3 : List Cond := [Cond.code yX3_numberOf cX3_numberOf 3 (some .long), Cond.fieldLink RX3 19 "GalleryRays$HitLog" "count" "I", Cond.constantLong RX3 47 (-100001), Cond.fieldLink RX3 9 "GalleryRays$HitLog" "numbers" "[J", Cond.methodLink RX11 201 yX11_heard, Cond.instanceMethod yX11_heard, Cond.selects RX11 yX11_heard yX11_heard, Cond.code yX11_heard cX11_heard 3 (some .long), Cond.methodLink RX11 136 yX1_numberOf, Cond.instanceMethod yX1_numberOf, Cond.selects RX1 yX1_numberOf yX1_numberOf, Cond.initialized RX1, Cond.code yX1_numberOf cX1_numberOf 3 (some .long), Cond.constantLong RX1 36 (-100001), Cond.fieldLink RX1 9 "GalleryRays$Ears" "numbers" "[J"]
def wsX11_fingerprint : List Cond := .code yX11_fingerprint cX11_fingerprint 5 (some .long) :: ((wsX11_fingerprint_r1 ++ (wsX11_fingerprint_r2 ++ wsX11_fingerprint_r3)) ++ wsX110 ++ wsX100 ++ wsX40 ++ wsX80 ++ wsX30 ++ wsX60 ++ wsX10)
def wsX12_init : List Cond := .code yX12_init cX12_init 1 none :: ([.methodLink RX12 1 objectInit, .instanceMethod objectInit, .code objectInit ⟨#[0xb1]⟩ 1 none, .arrayClass .int, .fieldLink RX12 7 "GalleryRaysModel" "v" "[I", .fieldLink RX12 13 "GalleryRaysModel" "past" "[I", .fieldLink RX12 16 "GalleryRaysModel" "text" "[I", .fieldLink RX12 19 "GalleryRaysModel" "kinds" "[I", .fieldLink RX12 22 "GalleryRaysModel" "numbers" "[I", .fieldLink RX12 25 "GalleryRaysModel" "rayPlace" "[I", .arrayClass .long, .fieldLink RX12 28 "GalleryRaysModel" "rayTime" "[J", .fieldLink RX12 32 "GalleryRaysModel" "rayEnergy" "[I", .fieldLink RX12 35 "GalleryRaysModel" "rayStep" "[I", .arrayClass .boolean, .fieldLink RX12 38 "GalleryRaysModel" "isLive" "[Z", .fieldLink RX12 42 "GalleryRaysModel" "hits" "[J", .fieldLink RX12 45 "GalleryRaysModel" "isEcho" "[Z", .fieldLink RX12 48 "GalleryRaysModel" "heardMany" "[I", .fieldLink RX12 51 "GalleryRaysModel" "heardSum" "[J", .fieldLink RX12 54 "GalleryRaysModel" "heardFirst" "[J", .fieldLink RX12 57 "GalleryRaysModel" "heardMost" "[I", .fieldLink RX12 60 "GalleryRaysModel" "isHit" "[Z", .fieldLink RX12 63 "GalleryRaysModel" "ends" "[I"] ++ wsX120)
def wsX12_in : List Cond := .code yX12_in cX12_in 3 (some .boolean) :: ([])
def wsX12_act : List Cond := .code yX12_act cX12_act 2 none :: ([.fieldLink RX12 66 "GalleryRaysModel" "pastMany" "I", .fieldLink RX12 13 "GalleryRaysModel" "past" "[I", .fieldLink RX12 7 "GalleryRaysModel" "v" "[I"] ++ wsX120)
def wsX12_isNumber : List Cond := .code yX12_isNumber cX12_isNumber 2 (some .boolean) :: ([.methodLink RX12 70 yX12_in, .static yX12_in, .initialized RX12, .code yX12_in cX12_in 3 (some .boolean)])
def wsX12_adds : List Cond := .code yX12_adds cX12_adds 6 none :: ([.fieldLink RX12 7 "GalleryRaysModel" "v" "[I"] ++ wsX120)
def wsX12_add : List Cond := .code yX12_add cX12_add 5 (some .int) :: ([.constant RX12 78 (-100001), .fieldLink RX12 7 "GalleryRaysModel" "v" "[I", .constant RX12 79 (-100003), .methodLink RX12 70 yX12_in, .static yX12_in, .initialized RX12, .code yX12_in cX12_in 3 (some .boolean), .methodLink RX12 74 yX12_isNumber, .static yX12_isNumber, .code yX12_isNumber cX12_isNumber 2 (some .boolean), .methodLink RX12 80 yX12_act, .instanceMethod yX12_act, .selects RX12 yX12_act yX12_act, .code yX12_act cX12_act 2 none, .fieldLink RX12 66 "GalleryRaysModel" "pastMany" "I", .fieldLink RX12 13 "GalleryRaysModel" "past" "[I", .methodLink RX12 83 yX12_adds, .instanceMethod yX12_adds, .selects RX12 yX12_adds yX12_adds, .code yX12_adds cX12_adds 6 none] ++ wsX120)
def wsX12_isPart : List Cond := .code yX12_isPart cX12_isPart 2 (some .boolean) :: ([.fieldLink RX12 7 "GalleryRaysModel" "v" "[I", .methodLink RX12 70 yX12_in, .static yX12_in, .initialized RX12, .code yX12_in cX12_in 3 (some .boolean)] ++ wsX120)
def wsX12_remove : List Cond := .code yX12_remove cX12_remove 3 (some .int) :: ([.constant RX12 78 (-100001), .fieldLink RX12 7 "GalleryRaysModel" "v" "[I", .methodLink RX12 87 yX12_isPart, .instanceMethod yX12_isPart, .selects RX12 yX12_isPart yX12_isPart, .initialized RX12, .code yX12_isPart cX12_isPart 2 (some .boolean), .methodLink RX12 70 yX12_in, .static yX12_in, .code yX12_in cX12_in 3 (some .boolean), .methodLink RX12 80 yX12_act, .instanceMethod yX12_act, .selects RX12 yX12_act yX12_act, .code yX12_act cX12_act 2 none, .fieldLink RX12 66 "GalleryRaysModel" "pastMany" "I", .fieldLink RX12 13 "GalleryRaysModel" "past" "[I"] ++ wsX120)
def wsX12_part : List Cond := .code yX12_part cX12_part 3 (some .int) :: ([.fieldLink RX12 7 "GalleryRaysModel" "v" "[I", .constant RX12 78 (-100001), .methodLink RX12 87 yX12_isPart, .instanceMethod yX12_isPart, .selects RX12 yX12_isPart yX12_isPart, .initialized RX12, .code yX12_isPart cX12_isPart 2 (some .boolean), .methodLink RX12 70 yX12_in, .static yX12_in, .code yX12_in cX12_in 3 (some .boolean)] ++ wsX120)
def wsX12_parts : List Cond := .code yX12_parts cX12_parts 1 (some .int) :: ([.fieldLink RX12 7 "GalleryRaysModel" "v" "[I"] ++ wsX120)
def wsX12_sets : List Cond := .code yX12_sets cX12_sets 4 (some .int) :: ([.fieldLink RX12 7 "GalleryRaysModel" "v" "[I", .methodLink RX12 80 yX12_act, .instanceMethod yX12_act, .selects RX12 yX12_act yX12_act, .initialized RX12, .code yX12_act cX12_act 2 none, .fieldLink RX12 66 "GalleryRaysModel" "pastMany" "I", .fieldLink RX12 13 "GalleryRaysModel" "past" "[I"] ++ wsX120)
def wsX12_setLoss : List Cond := .code yX12_setLoss cX12_setLoss 2 (some .int) :: ([.constant RX12 78 (-100001), .methodLink RX12 70 yX12_in, .static yX12_in, .initialized RX12, .code yX12_in cX12_in 3 (some .boolean), .methodLink RX12 91 yX12_sets, .instanceMethod yX12_sets, .selects RX12 yX12_sets yX12_sets, .code yX12_sets cX12_sets 4 (some .int), .fieldLink RX12 7 "GalleryRaysModel" "v" "[I", .methodLink RX12 80 yX12_act, .instanceMethod yX12_act, .selects RX12 yX12_act yX12_act, .code yX12_act cX12_act 2 none, .fieldLink RX12 66 "GalleryRaysModel" "pastMany" "I", .fieldLink RX12 13 "GalleryRaysModel" "past" "[I"] ++ wsX120)
def wsX12_setThreshold : List Cond := .code yX12_setThreshold cX12_setThreshold 2 (some .int) :: ([.constant RX12 95 (1000000), .constant RX12 78 (-100001), .methodLink RX12 70 yX12_in, .static yX12_in, .initialized RX12, .code yX12_in cX12_in 3 (some .boolean), .methodLink RX12 91 yX12_sets, .instanceMethod yX12_sets, .selects RX12 yX12_sets yX12_sets, .code yX12_sets cX12_sets 4 (some .int), .fieldLink RX12 7 "GalleryRaysModel" "v" "[I", .methodLink RX12 80 yX12_act, .instanceMethod yX12_act, .selects RX12 yX12_act yX12_act, .code yX12_act cX12_act 2 none, .fieldLink RX12 66 "GalleryRaysModel" "pastMany" "I", .fieldLink RX12 13 "GalleryRaysModel" "past" "[I"] ++ wsX120)
def wsX12_type : List Cond := .code yX12_type cX12_type 2 (some .int) :: ([.constant RX12 78 (-100001), .fieldLink RX12 96 "GalleryRaysModel" "typed" "I", .constant RX12 79 (-100003), .fieldLink RX12 16 "GalleryRaysModel" "text" "[I", .methodLink RX12 70 yX12_in, .static yX12_in, .initialized RX12, .code yX12_in cX12_in 3 (some .boolean)] ++ wsX120)
def wsX12_clear : List Cond := .code yX12_clear cX12_clear 2 (some .int) :: ([.fieldLink RX12 96 "GalleryRaysModel" "typed" "I"] ++ wsX120)
def wsX12_sign : List Cond := .code yX12_sign cX12_sign 1 (some .int) :: ([.fieldLink RX12 99 "GalleryRaysModel" "at" "I", .fieldLink RX12 96 "GalleryRaysModel" "typed" "I", .fieldLink RX12 16 "GalleryRaysModel" "text" "[I"] ++ wsX120)
def wsX12_takes : List Cond := .code yX12_takes cX12_takes 3 (some .boolean) :: ([.fieldLink RX12 99 "GalleryRaysModel" "at" "I", .methodLink RX12 102 yX12_sign, .instanceMethod yX12_sign, .selects RX12 yX12_sign yX12_sign, .initialized RX12, .code yX12_sign cX12_sign 1 (some .int), .fieldLink RX12 96 "GalleryRaysModel" "typed" "I", .fieldLink RX12 16 "GalleryRaysModel" "text" "[I"] ++ wsX120)
def wsX12_four : List Cond := .code yX12_four cX12_four 5 (some .boolean) :: ([.methodLink RX12 106 yX12_takes, .instanceMethod yX12_takes, .selects RX12 yX12_takes yX12_takes, .initialized RX12, .code yX12_takes cX12_takes 3 (some .boolean), .fieldLink RX12 99 "GalleryRaysModel" "at" "I", .methodLink RX12 102 yX12_sign, .instanceMethod yX12_sign, .selects RX12 yX12_sign yX12_sign, .code yX12_sign cX12_sign 1 (some .int), .fieldLink RX12 96 "GalleryRaysModel" "typed" "I", .fieldLink RX12 16 "GalleryRaysModel" "text" "[I"] ++ wsX120)
def wsX12_word : List Cond := .code yX12_word cX12_word 3 (some .boolean) :: ([.fieldLink RX12 19 "GalleryRaysModel" "kinds" "[I", .fieldLink RX12 113 "GalleryRaysModel" "found" "I", .methodLink RX12 106 yX12_takes, .instanceMethod yX12_takes, .selects RX12 yX12_takes yX12_takes, .initialized RX12, .code yX12_takes cX12_takes 3 (some .boolean), .fieldLink RX12 99 "GalleryRaysModel" "at" "I", .methodLink RX12 102 yX12_sign, .instanceMethod yX12_sign, .selects RX12 yX12_sign yX12_sign, .code yX12_sign cX12_sign 1 (some .int), .fieldLink RX12 96 "GalleryRaysModel" "typed" "I", .fieldLink RX12 16 "GalleryRaysModel" "text" "[I", .methodLink RX12 109 yX12_four, .instanceMethod yX12_four, .selects RX12 yX12_four yX12_four, .code yX12_four cX12_four 5 (some .boolean)] ++ wsX120)
def wsX12_number : List Cond := .code yX12_number cX12_number 8 (some .boolean) :: ([.fieldLink RX12 99 "GalleryRaysModel" "at" "I", .fieldLink RX12 116 "GalleryRaysModel" "wrong" "I", .fieldLink RX12 22 "GalleryRaysModel" "numbers" "[I", .fieldLink RX12 113 "GalleryRaysModel" "found" "I", .methodLink RX12 102 yX12_sign, .instanceMethod yX12_sign, .selects RX12 yX12_sign yX12_sign, .initialized RX12, .code yX12_sign cX12_sign 1 (some .int), .fieldLink RX12 96 "GalleryRaysModel" "typed" "I", .fieldLink RX12 16 "GalleryRaysModel" "text" "[I", .methodLink RX12 70 yX12_in, .static yX12_in, .code yX12_in cX12_in 3 (some .boolean)] ++ wsX120)
def wsX12_readsPart_r1 : List Cond := [Cond.fieldLink RX12 19 "GalleryRaysModel" "kinds" "[I", Cond.fieldLink RX12 113 "GalleryRaysModel" "found" "I", Cond.fieldLink RX12 22 "GalleryRaysModel" "numbers" "[I", Cond.methodLink RX12 119 yX12_word, Cond.instanceMethod yX12_word, Cond.selects RX12 yX12_word yX12_word, Cond.initialized RX12, Cond.code yX12_word cX12_word 3 (some .boolean), Cond.methodLink RX12 106 yX12_takes, Cond.instanceMethod yX12_takes, Cond.selects RX12 yX12_takes yX12_takes, Cond.code yX12_takes cX12_takes 3 (some .boolean), Cond.fieldLink RX12 99 "GalleryRaysModel" "at" "I", Cond.methodLink RX12 102 yX12_sign, Cond.instanceMethod yX12_sign, Cond.selects RX12 yX12_sign yX12_sign, Cond.code yX12_sign cX12_sign 1 (some .int), Cond.fieldLink RX12 96 "GalleryRaysModel" "typed" "I", Cond.fieldLink RX12 16 "GalleryRaysModel" "text" "[I", Cond.methodLink RX12 109 yX12_four, Cond.instanceMethod yX12_four, Cond.selects RX12 yX12_four yX12_four, Cond.code yX12_four cX12_four 5 (some .boolean), Cond.methodLink RX12 123 yX12_number]
def wsX12_readsPart_r2 : List Cond := [Cond.instanceMethod yX12_number, Cond.selects RX12 yX12_number yX12_number, Cond.code yX12_number cX12_number 8 (some .boolean), Cond.fieldLink RX12 116 "GalleryRaysModel" "wrong" "I", Cond.methodLink RX12 70 yX12_in, Cond.static yX12_in, Cond.code yX12_in cX12_in 3 (some .boolean)]
def wsX12_readsPart : List Cond := .code yX12_readsPart cX12_readsPart 3 (some .boolean) :: ((wsX12_readsPart_r1 ++ wsX12_readsPart_r2) ++ wsX120)
def wsX12_wrongAt_r1 : List Cond := [Cond.fieldLink RX12 99 "GalleryRaysModel" "at" "I", Cond.fieldLink RX12 113 "GalleryRaysModel" "found" "I", Cond.fieldLink RX12 116 "GalleryRaysModel" "wrong" "I", Cond.fieldLink RX12 96 "GalleryRaysModel" "typed" "I", Cond.methodLink RX12 127 yX12_readsPart, Cond.instanceMethod yX12_readsPart, Cond.selects RX12 yX12_readsPart yX12_readsPart, Cond.initialized RX12, Cond.code yX12_readsPart cX12_readsPart 3 (some .boolean), Cond.fieldLink RX12 19 "GalleryRaysModel" "kinds" "[I", Cond.fieldLink RX12 22 "GalleryRaysModel" "numbers" "[I", Cond.methodLink RX12 119 yX12_word, Cond.instanceMethod yX12_word, Cond.selects RX12 yX12_word yX12_word, Cond.code yX12_word cX12_word 3 (some .boolean), Cond.methodLink RX12 106 yX12_takes, Cond.instanceMethod yX12_takes, Cond.selects RX12 yX12_takes yX12_takes, Cond.code yX12_takes cX12_takes 3 (some .boolean), Cond.methodLink RX12 102 yX12_sign, Cond.instanceMethod yX12_sign, Cond.selects RX12 yX12_sign yX12_sign, Cond.code yX12_sign cX12_sign 1 (some .int), Cond.fieldLink RX12 16 "GalleryRaysModel" "text" "[I"]
def wsX12_wrongAt_r2 : List Cond := [Cond.methodLink RX12 109 yX12_four, Cond.instanceMethod yX12_four, Cond.selects RX12 yX12_four yX12_four, Cond.code yX12_four cX12_four 5 (some .boolean), Cond.methodLink RX12 123 yX12_number, Cond.instanceMethod yX12_number, Cond.selects RX12 yX12_number yX12_number, Cond.code yX12_number cX12_number 8 (some .boolean), Cond.methodLink RX12 70 yX12_in, Cond.static yX12_in, Cond.code yX12_in cX12_in 3 (some .boolean)]
def wsX12_wrongAt : List Cond := .code yX12_wrongAt cX12_wrongAt 2 (some .int) :: ((wsX12_wrongAt_r1 ++ wsX12_wrongAt_r2) ++ wsX120)
def wsX12_read_r1 : List Cond := [Cond.fieldLink RX12 7 "GalleryRaysModel" "v" "[I", Cond.fieldLink RX12 113 "GalleryRaysModel" "found" "I", Cond.constant RX12 79 (-100003), Cond.fieldLink RX12 19 "GalleryRaysModel" "kinds" "[I", Cond.fieldLink RX12 22 "GalleryRaysModel" "numbers" "[I", Cond.fieldLink RX12 96 "GalleryRaysModel" "typed" "I", Cond.methodLink RX12 130 yX12_wrongAt, Cond.instanceMethod yX12_wrongAt, Cond.selects RX12 yX12_wrongAt yX12_wrongAt, Cond.initialized RX12, Cond.code yX12_wrongAt cX12_wrongAt 2 (some .int), Cond.fieldLink RX12 99 "GalleryRaysModel" "at" "I", Cond.fieldLink RX12 116 "GalleryRaysModel" "wrong" "I", Cond.methodLink RX12 127 yX12_readsPart, Cond.instanceMethod yX12_readsPart, Cond.selects RX12 yX12_readsPart yX12_readsPart, Cond.code yX12_readsPart cX12_readsPart 3 (some .boolean), Cond.methodLink RX12 119 yX12_word, Cond.instanceMethod yX12_word, Cond.selects RX12 yX12_word yX12_word, Cond.code yX12_word cX12_word 3 (some .boolean), Cond.methodLink RX12 106 yX12_takes, Cond.instanceMethod yX12_takes, Cond.selects RX12 yX12_takes yX12_takes]
def wsX12_read_r2 : List Cond := [Cond.code yX12_takes cX12_takes 3 (some .boolean), Cond.methodLink RX12 102 yX12_sign, Cond.instanceMethod yX12_sign, Cond.selects RX12 yX12_sign yX12_sign, Cond.code yX12_sign cX12_sign 1 (some .int), Cond.fieldLink RX12 16 "GalleryRaysModel" "text" "[I", Cond.methodLink RX12 109 yX12_four, Cond.instanceMethod yX12_four, Cond.selects RX12 yX12_four yX12_four, Cond.code yX12_four cX12_four 5 (some .boolean), Cond.methodLink RX12 123 yX12_number, Cond.instanceMethod yX12_number, Cond.selects RX12 yX12_number yX12_number, Cond.code yX12_number cX12_number 8 (some .boolean), Cond.methodLink RX12 70 yX12_in, Cond.static yX12_in, Cond.code yX12_in cX12_in 3 (some .boolean), Cond.methodLink RX12 80 yX12_act, Cond.instanceMethod yX12_act, Cond.selects RX12 yX12_act yX12_act, Cond.code yX12_act cX12_act 2 none, Cond.fieldLink RX12 66 "GalleryRaysModel" "pastMany" "I", Cond.fieldLink RX12 13 "GalleryRaysModel" "past" "[I", Cond.methodLink RX12 83 yX12_adds]
def wsX12_read_r3 : List Cond := [Cond.instanceMethod yX12_adds, Cond.selects RX12 yX12_adds yX12_adds, Cond.code yX12_adds cX12_adds 6 none]
def wsX12_read : List Cond := .code yX12_read cX12_read 3 (some .int) :: ((wsX12_read_r1 ++ (wsX12_read_r2 ++ wsX12_read_r3)) ++ wsX120)
def wsX12_isStep : List Cond := .code yX12_isStep cX12_isStep 1 (some .boolean) :: ([.methodLink RX12 70 yX12_in, .static yX12_in, .initialized RX12, .code yX12_in cX12_in 3 (some .boolean)])
def wsX12_wide : List Cond := .code yX12_wide cX12_wide 6 (some .int) :: ([.constantLong RX12 133 (27720), .constantLong RX12 135 (16), .constantLong RX12 137 (3841992000), .constantLong RX12 139 (4)])
def wsX12_chord : List Cond := .code yX12_chord cX12_chord 1 (some .int) :: ([.constantLong RX12 141 (2000000), .methodLink RX12 143 yX12_wide, .static yX12_wide, .initialized RX12, .code yX12_wide cX12_wide 6 (some .int), .constantLong RX12 133 (27720), .constantLong RX12 135 (16), .constantLong RX12 137 (3841992000), .constantLong RX12 139 (4)])
def wsX12_time : List Cond := .code yX12_time cX12_time 2 (some .int) :: ([.constant RX12 78 (-100001), .methodLink RX12 147 yX12_isStep, .static yX12_isStep, .initialized RX12, .code yX12_isStep cX12_isStep 1 (some .boolean), .methodLink RX12 70 yX12_in, .static yX12_in, .code yX12_in cX12_in 3 (some .boolean), .methodLink RX12 150 yX12_chord, .static yX12_chord, .code yX12_chord cX12_chord 1 (some .int), .constantLong RX12 141 (2000000), .methodLink RX12 143 yX12_wide, .static yX12_wide, .code yX12_wide cX12_wide 6 (some .int), .constantLong RX12 133 (27720), .constantLong RX12 135 (16), .constantLong RX12 137 (3841992000), .constantLong RX12 139 (4)])
def wsX12_circle : List Cond := .code yX12_circle cX12_circle 1 (some .int) :: ([.constantLong RX12 154 (1000000), .methodLink RX12 143 yX12_wide, .static yX12_wide, .initialized RX12, .code yX12_wide cX12_wide 6 (some .int), .constantLong RX12 133 (27720), .constantLong RX12 135 (16), .constantLong RX12 137 (3841992000), .constantLong RX12 139 (4)])
def wsX12_caustic : List Cond := .code yX12_caustic cX12_caustic 2 (some .int) :: ([.constant RX12 78 (-100001), .methodLink RX12 147 yX12_isStep, .static yX12_isStep, .initialized RX12, .code yX12_isStep cX12_isStep 1 (some .boolean), .methodLink RX12 70 yX12_in, .static yX12_in, .code yX12_in cX12_in 3 (some .boolean), .methodLink RX12 156 yX12_circle, .static yX12_circle, .code yX12_circle cX12_circle 1 (some .int), .constantLong RX12 154 (1000000), .methodLink RX12 143 yX12_wide, .static yX12_wide, .code yX12_wide cX12_wide 6 (some .int), .constantLong RX12 133 (27720), .constantLong RX12 135 (16), .constantLong RX12 137 (3841992000), .constantLong RX12 139 (4)])
def wsX12_common : List Cond := .code yX12_common cX12_common 4 (some .int) :: ([])
def wsX12_size : List Cond := .code yX12_size cX12_size 1 (some .int) :: ([])
def wsX12_order : List Cond := .code yX12_order cX12_order 2 (some .int) :: ([.constant RX12 78 (-100001), .methodLink RX12 147 yX12_isStep, .static yX12_isStep, .initialized RX12, .code yX12_isStep cX12_isStep 1 (some .boolean), .methodLink RX12 70 yX12_in, .static yX12_in, .code yX12_in cX12_in 3 (some .boolean), .methodLink RX12 159 yX12_size, .static yX12_size, .code yX12_size cX12_size 1 (some .int), .methodLink RX12 162 yX12_common, .static yX12_common, .code yX12_common cX12_common 4 (some .int)])
def wsX12_turns : List Cond := .code yX12_turns cX12_turns 2 (some .int) :: ([.constant RX12 78 (-100001), .methodLink RX12 147 yX12_isStep, .static yX12_isStep, .initialized RX12, .code yX12_isStep cX12_isStep 1 (some .boolean), .methodLink RX12 70 yX12_in, .static yX12_in, .code yX12_in cX12_in 3 (some .boolean), .methodLink RX12 159 yX12_size, .static yX12_size, .code yX12_size cX12_size 1 (some .int), .methodLink RX12 162 yX12_common, .static yX12_common, .code yX12_common cX12_common 4 (some .int)])
def wsX12_isPlace : List Cond := .code yX12_isPlace cX12_isPlace 1 (some .boolean) :: ([.methodLink RX12 70 yX12_in, .static yX12_in, .initialized RX12, .code yX12_in cX12_in 3 (some .boolean)])
def wsX12_aim : List Cond := .code yX12_aim cX12_aim 7 (some .int) :: ([.constant RX12 78 (-100001), .constant RX12 168 (-100009), .methodLink RX12 165 yX12_isPlace, .static yX12_isPlace, .initialized RX12, .code yX12_isPlace cX12_isPlace 1 (some .boolean), .methodLink RX12 70 yX12_in, .static yX12_in, .code yX12_in cX12_in 3 (some .boolean)])
def wsX12_widest : List Cond := .code yX12_widest cX12_widest 6 (some .int) :: ([.constant RX12 95 (1000000), .constant RX12 78 (-100001), .constant RX12 168 (-100009), .methodLink RX12 70 yX12_in, .static yX12_in, .initialized RX12, .code yX12_in cX12_in 3 (some .boolean), .methodLink RX12 162 yX12_common, .static yX12_common, .code yX12_common cX12_common 4 (some .int), .methodLink RX12 156 yX12_circle, .static yX12_circle, .code yX12_circle cX12_circle 1 (some .int), .constantLong RX12 154 (1000000), .methodLink RX12 143 yX12_wide, .static yX12_wide, .code yX12_wide cX12_wide 6 (some .int), .constantLong RX12 133 (27720), .constantLong RX12 135 (16), .constantLong RX12 137 (3841992000), .constantLong RX12 139 (4)])
def wsX12_begins : List Cond := .code yX12_begins cX12_begins 6 none :: ([.fieldLink RX12 25 "GalleryRaysModel" "rayPlace" "[I", .fieldLink RX12 169 "GalleryRaysModel" "rayMany" "I", .fieldLink RX12 28 "GalleryRaysModel" "rayTime" "[J", .fieldLink RX12 35 "GalleryRaysModel" "rayStep" "[I", .fieldLink RX12 32 "GalleryRaysModel" "rayEnergy" "[I", .fieldLink RX12 38 "GalleryRaysModel" "isLive" "[Z"] ++ wsX120)
def wsX12_next : List Cond := .code yX12_next cX12_next 7 (some .int) :: ([.constant RX12 168 (-100009), .fieldLink RX12 169 "GalleryRaysModel" "rayMany" "I", .fieldLink RX12 28 "GalleryRaysModel" "rayTime" "[J", .fieldLink RX12 35 "GalleryRaysModel" "rayStep" "[I", .fieldLink RX12 38 "GalleryRaysModel" "isLive" "[Z", .methodLink RX12 150 yX12_chord, .static yX12_chord, .initialized RX12, .code yX12_chord cX12_chord 1 (some .int), .constantLong RX12 141 (2000000), .methodLink RX12 143 yX12_wide, .static yX12_wide, .code yX12_wide cX12_wide 6 (some .int), .constantLong RX12 133 (27720), .constantLong RX12 135 (16), .constantLong RX12 137 (3841992000), .constantLong RX12 139 (4)] ++ wsX120)
def wsX12_tilted : List Cond := .code yX12_tilted cX12_tilted 3 (some .int) :: ([.methodLink RX12 147 yX12_isStep, .static yX12_isStep, .initialized RX12, .code yX12_isStep cX12_isStep 1 (some .boolean), .methodLink RX12 70 yX12_in, .static yX12_in, .code yX12_in cX12_in 3 (some .boolean)])
def wsX12_hears : List Cond := .code yX12_hears cX12_hears 3 none :: ([.fieldLink RX12 45 "GalleryRaysModel" "isEcho" "[Z", .fieldLink RX12 172 "GalleryRaysModel" "hitMany" "I", .fieldLink RX12 54 "GalleryRaysModel" "heardFirst" "[J", .fieldLink RX12 48 "GalleryRaysModel" "heardMany" "[I", .fieldLink RX12 28 "GalleryRaysModel" "rayTime" "[J", .fieldLink RX12 51 "GalleryRaysModel" "heardSum" "[J", .fieldLink RX12 32 "GalleryRaysModel" "rayEnergy" "[I", .fieldLink RX12 57 "GalleryRaysModel" "heardMost" "[I"] ++ wsX120)
def wsX12_meets_r1 : List Cond := [Cond.fieldLink RX12 7 "GalleryRaysModel" "v" "[I", Cond.fieldLink RX12 32 "GalleryRaysModel" "rayEnergy" "[I", Cond.constantLong RX12 175 (1000), Cond.fieldLink RX12 35 "GalleryRaysModel" "rayStep" "[I", Cond.fieldLink RX12 38 "GalleryRaysModel" "isLive" "[Z", Cond.fieldLink RX12 169 "GalleryRaysModel" "rayMany" "I", Cond.fieldLink RX12 25 "GalleryRaysModel" "rayPlace" "[I", Cond.fieldLink RX12 28 "GalleryRaysModel" "rayTime" "[J", Cond.methodLink RX12 177 yX12_tilted, Cond.static yX12_tilted, Cond.initialized RX12, Cond.code yX12_tilted cX12_tilted 3 (some .int), Cond.methodLink RX12 147 yX12_isStep, Cond.static yX12_isStep, Cond.code yX12_isStep cX12_isStep 1 (some .boolean), Cond.methodLink RX12 70 yX12_in, Cond.static yX12_in, Cond.code yX12_in cX12_in 3 (some .boolean), Cond.methodLink RX12 180 yX12_begins, Cond.instanceMethod yX12_begins, Cond.selects RX12 yX12_begins yX12_begins, Cond.code yX12_begins cX12_begins 6 none, Cond.methodLink RX12 184 yX12_hears, Cond.instanceMethod yX12_hears]
def wsX12_meets_r2 : List Cond := [Cond.selects RX12 yX12_hears yX12_hears, Cond.code yX12_hears cX12_hears 3 none, Cond.fieldLink RX12 45 "GalleryRaysModel" "isEcho" "[Z", Cond.fieldLink RX12 172 "GalleryRaysModel" "hitMany" "I", Cond.fieldLink RX12 54 "GalleryRaysModel" "heardFirst" "[J", Cond.fieldLink RX12 48 "GalleryRaysModel" "heardMany" "[I", Cond.fieldLink RX12 51 "GalleryRaysModel" "heardSum" "[J", Cond.fieldLink RX12 57 "GalleryRaysModel" "heardMost" "[I"]
def wsX12_meets : List Cond := .code yX12_meets cX12_meets 5 none :: ((wsX12_meets_r1 ++ wsX12_meets_r2) ++ wsX120)
def wsX12_covers : List Cond := .code yX12_covers cX12_covers 3 (some .boolean) :: ([.fieldLink RX12 7 "GalleryRaysModel" "v" "[I"] ++ wsX120)
def wsX12_goes_r1 : List Cond := [Cond.fieldLink RX12 28 "GalleryRaysModel" "rayTime" "[J", Cond.fieldLink RX12 35 "GalleryRaysModel" "rayStep" "[I", Cond.fieldLink RX12 25 "GalleryRaysModel" "rayPlace" "[I", Cond.fieldLink RX12 172 "GalleryRaysModel" "hitMany" "I", Cond.fieldLink RX12 42 "GalleryRaysModel" "hits" "[J", Cond.fieldLink RX12 32 "GalleryRaysModel" "rayEnergy" "[I", Cond.fieldLink RX12 45 "GalleryRaysModel" "isEcho" "[Z", Cond.fieldLink RX12 7 "GalleryRaysModel" "v" "[I", Cond.constantLong RX12 175 (1000), Cond.fieldLink RX12 38 "GalleryRaysModel" "isLive" "[Z", Cond.methodLink RX12 150 yX12_chord, Cond.static yX12_chord, Cond.initialized RX12, Cond.code yX12_chord cX12_chord 1 (some .int), Cond.constantLong RX12 141 (2000000), Cond.methodLink RX12 143 yX12_wide, Cond.static yX12_wide, Cond.code yX12_wide cX12_wide 6 (some .int), Cond.constantLong RX12 133 (27720), Cond.constantLong RX12 135 (16), Cond.constantLong RX12 137 (3841992000), Cond.constantLong RX12 139 (4), Cond.methodLink RX12 188 yX12_covers, Cond.instanceMethod yX12_covers]
def wsX12_goes_r2 : List Cond := [Cond.selects RX12 yX12_covers yX12_covers, Cond.code yX12_covers cX12_covers 3 (some .boolean), Cond.methodLink RX12 191 yX12_meets, Cond.instanceMethod yX12_meets, Cond.selects RX12 yX12_meets yX12_meets, Cond.code yX12_meets cX12_meets 5 none, Cond.fieldLink RX12 169 "GalleryRaysModel" "rayMany" "I", Cond.methodLink RX12 177 yX12_tilted, Cond.static yX12_tilted, Cond.code yX12_tilted cX12_tilted 3 (some .int), Cond.methodLink RX12 147 yX12_isStep, Cond.static yX12_isStep, Cond.code yX12_isStep cX12_isStep 1 (some .boolean), Cond.methodLink RX12 70 yX12_in, Cond.static yX12_in, Cond.code yX12_in cX12_in 3 (some .boolean), Cond.methodLink RX12 180 yX12_begins, Cond.instanceMethod yX12_begins, Cond.selects RX12 yX12_begins yX12_begins, Cond.code yX12_begins cX12_begins 6 none, Cond.methodLink RX12 184 yX12_hears, Cond.instanceMethod yX12_hears, Cond.selects RX12 yX12_hears yX12_hears, Cond.code yX12_hears cX12_hears 3 none]
def wsX12_goes_r3 : List Cond := [Cond.fieldLink RX12 54 "GalleryRaysModel" "heardFirst" "[J", Cond.fieldLink RX12 48 "GalleryRaysModel" "heardMany" "[I", Cond.fieldLink RX12 51 "GalleryRaysModel" "heardSum" "[J", Cond.fieldLink RX12 57 "GalleryRaysModel" "heardMost" "[I"]
def wsX12_goes : List Cond := .code yX12_goes cX12_goes 4 none :: ((wsX12_goes_r1 ++ (wsX12_goes_r2 ++ wsX12_goes_r3)) ++ wsX120)
def wsX12_shoot_r1 : List Cond := [Cond.constant RX12 95 (1000000), Cond.constant RX12 78 (-100001), Cond.fieldLink RX12 194 "GalleryRaysModel" "shots" "I", Cond.fieldLink RX12 197 "GalleryRaysModel" "begin" "I", Cond.fieldLink RX12 169 "GalleryRaysModel" "rayMany" "I", Cond.fieldLink RX12 172 "GalleryRaysModel" "hitMany" "I", Cond.fieldLink RX12 48 "GalleryRaysModel" "heardMany" "[I", Cond.fieldLink RX12 51 "GalleryRaysModel" "heardSum" "[J", Cond.fieldLink RX12 57 "GalleryRaysModel" "heardMost" "[I", Cond.methodLink RX12 165 yX12_isPlace, Cond.static yX12_isPlace, Cond.initialized RX12, Cond.code yX12_isPlace cX12_isPlace 1 (some .boolean), Cond.methodLink RX12 70 yX12_in, Cond.static yX12_in, Cond.code yX12_in cX12_in 3 (some .boolean), Cond.methodLink RX12 147 yX12_isStep, Cond.static yX12_isStep, Cond.code yX12_isStep cX12_isStep 1 (some .boolean), Cond.methodLink RX12 180 yX12_begins, Cond.instanceMethod yX12_begins, Cond.selects RX12 yX12_begins yX12_begins, Cond.code yX12_begins cX12_begins 6 none, Cond.fieldLink RX12 25 "GalleryRaysModel" "rayPlace" "[I"]
def wsX12_shoot_r2 : List Cond := [Cond.fieldLink RX12 28 "GalleryRaysModel" "rayTime" "[J", Cond.fieldLink RX12 35 "GalleryRaysModel" "rayStep" "[I", Cond.fieldLink RX12 32 "GalleryRaysModel" "rayEnergy" "[I", Cond.fieldLink RX12 38 "GalleryRaysModel" "isLive" "[Z", Cond.methodLink RX12 200 yX12_next, Cond.instanceMethod yX12_next, Cond.selects RX12 yX12_next yX12_next, Cond.code yX12_next cX12_next 7 (some .int), Cond.constant RX12 168 (-100009), Cond.methodLink RX12 150 yX12_chord, Cond.static yX12_chord, Cond.code yX12_chord cX12_chord 1 (some .int), Cond.constantLong RX12 141 (2000000), Cond.methodLink RX12 143 yX12_wide, Cond.static yX12_wide, Cond.code yX12_wide cX12_wide 6 (some .int), Cond.constantLong RX12 133 (27720), Cond.constantLong RX12 135 (16), Cond.constantLong RX12 137 (3841992000), Cond.constantLong RX12 139 (4), Cond.methodLink RX12 203 yX12_goes, Cond.instanceMethod yX12_goes, Cond.selects RX12 yX12_goes yX12_goes, Cond.code yX12_goes cX12_goes 4 none]
def wsX12_shoot_r3 : List Cond := [Cond.fieldLink RX12 42 "GalleryRaysModel" "hits" "[J", Cond.fieldLink RX12 45 "GalleryRaysModel" "isEcho" "[Z", Cond.fieldLink RX12 7 "GalleryRaysModel" "v" "[I", Cond.constantLong RX12 175 (1000), Cond.methodLink RX12 188 yX12_covers, Cond.instanceMethod yX12_covers, Cond.selects RX12 yX12_covers yX12_covers, Cond.code yX12_covers cX12_covers 3 (some .boolean), Cond.methodLink RX12 191 yX12_meets, Cond.instanceMethod yX12_meets, Cond.selects RX12 yX12_meets yX12_meets, Cond.code yX12_meets cX12_meets 5 none, Cond.methodLink RX12 177 yX12_tilted, Cond.static yX12_tilted, Cond.code yX12_tilted cX12_tilted 3 (some .int), Cond.methodLink RX12 184 yX12_hears, Cond.instanceMethod yX12_hears, Cond.selects RX12 yX12_hears yX12_hears, Cond.code yX12_hears cX12_hears 3 none, Cond.fieldLink RX12 54 "GalleryRaysModel" "heardFirst" "[J"]
def wsX12_shoot : List Cond := .code yX12_shoot cX12_shoot 5 (some .int) :: ((wsX12_shoot_r1 ++ (wsX12_shoot_r2 ++ wsX12_shoot_r3)) ++ wsX120)
def wsX12_hits : List Cond := .code yX12_hits cX12_hits 1 (some .int) :: ([.fieldLink RX12 172 "GalleryRaysModel" "hitMany" "I"] ++ wsX120)
def wsX12_hit : List Cond := .code yX12_hit cX12_hit 3 (some .long) :: ([.fieldLink RX12 172 "GalleryRaysModel" "hitMany" "I", .fieldLink RX12 42 "GalleryRaysModel" "hits" "[J", .constantLong RX12 207 (-100001), .methodLink RX12 70 yX12_in, .static yX12_in, .initialized RX12, .code yX12_in cX12_in 3 (some .boolean)] ++ wsX120)
def wsX12_rays : List Cond := .code yX12_rays cX12_rays 1 (some .int) :: ([.fieldLink RX12 169 "GalleryRaysModel" "rayMany" "I"] ++ wsX120)
def wsX12_covered : List Cond := .code yX12_covered cX12_covered 4 (some .int) :: ([.fieldLink RX12 60 "GalleryRaysModel" "isHit" "[Z", .fieldLink RX12 172 "GalleryRaysModel" "hitMany" "I", .fieldLink RX12 42 "GalleryRaysModel" "hits" "[J"] ++ wsX120)
def wsX12_coverage : List Cond := .code yX12_coverage cX12_coverage 1 (some .int) :: ([.methodLink RX12 209 yX12_covered, .instanceMethod yX12_covered, .selects RX12 yX12_covered yX12_covered, .initialized RX12, .code yX12_covered cX12_covered 4 (some .int), .fieldLink RX12 60 "GalleryRaysModel" "isHit" "[Z", .fieldLink RX12 172 "GalleryRaysModel" "hitMany" "I", .fieldLink RX12 42 "GalleryRaysModel" "hits" "[J"] ++ wsX120)
def wsX12_gap : List Cond := .code yX12_gap cX12_gap 4 (some .int) :: ([.constant RX12 212 (55440), .fieldLink RX12 60 "GalleryRaysModel" "isHit" "[Z", .methodLink RX12 209 yX12_covered, .instanceMethod yX12_covered, .selects RX12 yX12_covered yX12_covered, .initialized RX12, .code yX12_covered cX12_covered 4 (some .int), .fieldLink RX12 172 "GalleryRaysModel" "hitMany" "I", .fieldLink RX12 42 "GalleryRaysModel" "hits" "[J"] ++ wsX120)
def wsX12_heardOf : List Cond := .code yX12_heardOf cX12_heardOf 3 (some .long) :: ([.fieldLink RX12 48 "GalleryRaysModel" "heardMany" "[I", .constantLong RX12 213 (-100009), .fieldLink RX12 54 "GalleryRaysModel" "heardFirst" "[J", .fieldLink RX12 51 "GalleryRaysModel" "heardSum" "[J", .fieldLink RX12 57 "GalleryRaysModel" "heardMost" "[I"] ++ wsX120)
def wsX12_heard : List Cond := .code yX12_heard cX12_heard 3 (some .long) :: ([.constantLong RX12 207 (-100001), .methodLink RX12 70 yX12_in, .static yX12_in, .initialized RX12, .code yX12_in cX12_in 3 (some .boolean), .methodLink RX12 215 yX12_heardOf, .instanceMethod yX12_heardOf, .selects RX12 yX12_heardOf yX12_heardOf, .code yX12_heardOf cX12_heardOf 3 (some .long), .fieldLink RX12 48 "GalleryRaysModel" "heardMany" "[I", .constantLong RX12 213 (-100009), .fieldLink RX12 54 "GalleryRaysModel" "heardFirst" "[J", .fieldLink RX12 51 "GalleryRaysModel" "heardSum" "[J", .fieldLink RX12 57 "GalleryRaysModel" "heardMost" "[I"] ++ wsX120)
def wsX12_echo : List Cond := .code yX12_echo cX12_echo 4 (some .int) :: ([.constant RX12 78 (-100001), .fieldLink RX12 172 "GalleryRaysModel" "hitMany" "I", .fieldLink RX12 45 "GalleryRaysModel" "isEcho" "[Z", .constant RX12 168 (-100009)] ++ wsX120)
def wsX12_mean : List Cond := .code yX12_mean cX12_mean 4 (some .float) :: ([.fieldLink RX12 172 "GalleryRaysModel" "hitMany" "I", .fieldLink RX12 42 "GalleryRaysModel" "hits" "[J"] ++ wsX120)
def wsX12_between : List Cond := .code yX12_between cX12_between 3 (some .boolean) :: ([])
def wsX12_crosses : List Cond := .code yX12_crosses cX12_crosses 8 (some .boolean) :: ([.fieldLink RX12 63 "GalleryRaysModel" "ends" "[I", .methodLink RX12 219 yX12_between, .static yX12_between, .initialized RX12, .code yX12_between cX12_between 3 (some .boolean)] ++ wsX120)
def wsX12_crossings : List Cond := .code yX12_crossings cX12_crossings 6 (some .int) :: ([.constant RX12 78 (-100001), .fieldLink RX12 63 "GalleryRaysModel" "ends" "[I", .fieldLink RX12 197 "GalleryRaysModel" "begin" "I", .fieldLink RX12 172 "GalleryRaysModel" "hitMany" "I", .fieldLink RX12 42 "GalleryRaysModel" "hits" "[J", .methodLink RX12 70 yX12_in, .static yX12_in, .initialized RX12, .code yX12_in cX12_in 3 (some .boolean), .methodLink RX12 222 yX12_crosses, .instanceMethod yX12_crosses, .selects RX12 yX12_crosses yX12_crosses, .code yX12_crosses cX12_crosses 8 (some .boolean), .methodLink RX12 219 yX12_between, .static yX12_between, .code yX12_between cX12_between 3 (some .boolean)] ++ wsX120)
def wsX12_undo : List Cond := .code yX12_undo cX12_undo 2 (some .int) :: ([.fieldLink RX12 66 "GalleryRaysModel" "pastMany" "I", .constant RX12 168 (-100009), .fieldLink RX12 7 "GalleryRaysModel" "v" "[I", .fieldLink RX12 13 "GalleryRaysModel" "past" "[I"] ++ wsX120)
def wsX12_fingerprint : List Cond := .code yX12_fingerprint cX12_fingerprint 5 (some .long) :: ([.constantLong RX12 225 (3937), .fieldLink RX12 7 "GalleryRaysModel" "v" "[I", .constantLong RX12 227 (31), .fieldLink RX12 172 "GalleryRaysModel" "hitMany" "I", .fieldLink RX12 169 "GalleryRaysModel" "rayMany" "I", .fieldLink RX12 42 "GalleryRaysModel" "hits" "[J", .methodLink RX12 209 yX12_covered, .instanceMethod yX12_covered, .selects RX12 yX12_covered yX12_covered, .initialized RX12, .code yX12_covered cX12_covered 4 (some .int), .fieldLink RX12 60 "GalleryRaysModel" "isHit" "[Z", .methodLink RX12 215 yX12_heardOf, .instanceMethod yX12_heardOf, .selects RX12 yX12_heardOf yX12_heardOf, .code yX12_heardOf cX12_heardOf 3 (some .long), .fieldLink RX12 48 "GalleryRaysModel" "heardMany" "[I", .constantLong RX12 213 (-100009), .fieldLink RX12 54 "GalleryRaysModel" "heardFirst" "[J", .fieldLink RX12 51 "GalleryRaysModel" "heardSum" "[J", .fieldLink RX12 57 "GalleryRaysModel" "heardMost" "[I"] ++ wsX120)
def wsJ9_abs_0f7a4 : List Cond := .code yJ9_abs_0f7a4 cJ9_abs_0f7a4 1 (some .int) :: ([])
def wsJ9_max_7cf53 : List Cond := .code yJ9_max_7cf53 cJ9_max_7cf53 2 (some .int) :: ([])
def wsJ9_max_f86c9 : List Cond := .code yJ9_max_f86c9 cJ9_max_f86c9 4 (some .long) :: ([])
def wsJ9_min_7cf53 : List Cond := .code yJ9_min_7cf53 cJ9_min_7cf53 2 (some .int) :: ([])
def wsL_law_r1 : List Cond := [Cond.classLink RL 7 RX11, Cond.instantiable RX11 4, Cond.initialized RX11, Cond.classLink RL 10 RX12, Cond.instantiable RX12 27, Cond.initialized RX12, Cond.methodLink RL 9 yX11_init, Cond.instanceMethod yX11_init, Cond.code yX11_init cX11_init 1 none, Cond.methodLink RX11 1 objectInit, Cond.instanceMethod objectInit, Cond.code objectInit ⟨#[0xb1]⟩ 1 none, Cond.classLink RX11 7 RX10, Cond.instantiable RX10 3, Cond.initialized RX10, Cond.fieldLink RX11 10 "GalleryRays" "wall" "LGalleryRays$Wall;", Cond.classLink RX11 16 RX2, Cond.instantiable RX2 2, Cond.initialized RX2, Cond.fieldLink RX11 19 "GalleryRays" "history" "LGalleryRays$History;", Cond.classLink RX11 23 RX9, Cond.instantiable RX9 6, Cond.initialized RX9, Cond.fieldLink RX11 26 "GalleryRays" "text" "LGalleryRays$Text;"]
def wsL_law_r2 : List Cond := [Cond.classLink RX11 30 RX8, Cond.instantiable RX8 6, Cond.initialized RX8, Cond.fieldLink RX11 33 "GalleryRays" "shot" "LGalleryRays$Shot;", Cond.instanceMethod yX10_init, Cond.code yX10_init cX10_init 1 none, Cond.methodLink RX10 1 objectInit, Cond.classLink RX10 7 RX4, Cond.instantiable RX4 2, Cond.initialized RX4, Cond.fieldLink RX10 10 "GalleryRays$Wall" "parts" "LGalleryRays$Parts;", Cond.fieldLink RX10 16 "GalleryRays$Wall" "loss" "I", Cond.fieldLink RX10 20 "GalleryRays$Wall" "threshold" "I", Cond.instanceMethod yX4_init, Cond.code yX4_init cX4_init 1 none, Cond.methodLink RX4 3 objectInit, Cond.arrayClass .int, Cond.fieldLink RX4 9 "GalleryRays$Parts" "numbers" "[I", Cond.methodLink RX11 18 yX2_init, Cond.instanceMethod yX2_init, Cond.code yX2_init cX2_init 2 none, Cond.methodLink RX2 3 objectInit, Cond.classLink RX2 9 RX10, Cond.fieldLink RX2 11 "GalleryRays$History" "states" "[LGalleryRays$Wall;"]
def wsL_law_r3 : List Cond := [Cond.instanceMethod yX9_init, Cond.code yX9_init cX9_init 1 none, Cond.methodLink RX9 3 objectInit, Cond.arrayClass .char, Cond.fieldLink RX9 9 "GalleryRays$Text" "signs" "[C", Cond.classLink RX9 15 RX4, Cond.fieldLink RX9 18 "GalleryRays$Text" "found" "LGalleryRays$Parts;", Cond.methodLink RX11 32 yX8_init, Cond.instanceMethod yX8_init, Cond.code yX8_init cX8_init 2 none, Cond.methodLink RX8 3 objectInit, Cond.classLink RX8 9 RX7, Cond.fieldLink RX8 11 "GalleryRays$Shot" "rays" "[LGalleryRays$Ray;", Cond.classLink RX8 17 RX3, Cond.instantiable RX3 5, Cond.initialized RX3, Cond.fieldLink RX8 20 "GalleryRays$Shot" "log" "LGalleryRays$HitLog;", Cond.classLink RX8 24 RX6, Cond.instantiable RX6 2, Cond.initialized RX6, Cond.fieldLink RX8 27 "GalleryRays$Shot" "marks" "LGalleryRays$PlaceMarks;", Cond.classLink RX8 31 RX1, Cond.instantiable RX1 1, Cond.initialized RX1]
def wsL_law_r4 : List Cond := [Cond.fieldLink RX8 34 "GalleryRays$Shot" "ears" "LGalleryRays$Ears;", Cond.classLink RX8 38 RX5, Cond.instantiable RX5 2, Cond.initialized RX5, Cond.fieldLink RX8 41 "GalleryRays$Shot" "path" "LGalleryRays$Path;", Cond.instantiable RX7 6, Cond.initialized RX7, Cond.instanceMethod yX3_init, Cond.code yX3_init cX3_init 1 none, Cond.methodLink RX3 3 objectInit, Cond.arrayClass .long, Cond.fieldLink RX3 9 "GalleryRays$HitLog" "numbers" "[J", Cond.fieldLink RX3 15 "GalleryRays$HitLog" "echoes" "[I", Cond.instanceMethod yX6_init, Cond.code yX6_init cX6_init 1 none, Cond.methodLink RX6 3 objectInit, Cond.fieldLink RX6 9 "GalleryRays$PlaceMarks" "words" "[J", Cond.methodLink RX8 33 yX1_init, Cond.instanceMethod yX1_init, Cond.code yX1_init cX1_init 1 none, Cond.methodLink RX1 3 objectInit, Cond.fieldLink RX1 9 "GalleryRays$Ears" "numbers" "[J", Cond.methodLink RX1 15 yX1_forget, Cond.instanceMethod yX1_forget]
def wsL_law_r5 : List Cond := [Cond.selects RX1 yX1_forget yX1_forget, Cond.code yX1_forget cX1_forget 3 none, Cond.constantLong RX1 18 (-100009), Cond.instanceMethod yX5_init, Cond.code yX5_init cX5_init 1 none, Cond.methodLink RX5 3 objectInit, Cond.fieldLink RX5 9 "GalleryRays$Path" "corners" "[I", Cond.methodLink RX8 45 yX7_init, Cond.instanceMethod yX7_init, Cond.code yX7_init cX7_init 2 none, Cond.methodLink RX7 1 objectInit, Cond.fieldLink RX7 7 "GalleryRays$Ray" "number" "I", Cond.methodLink RL 12 yX12_init, Cond.instanceMethod yX12_init, Cond.code yX12_init cX12_init 1 none, Cond.methodLink RX12 1 objectInit, Cond.fieldLink RX12 7 "GalleryRaysModel" "v" "[I", Cond.fieldLink RX12 13 "GalleryRaysModel" "past" "[I", Cond.fieldLink RX12 16 "GalleryRaysModel" "text" "[I", Cond.fieldLink RX12 19 "GalleryRaysModel" "kinds" "[I", Cond.fieldLink RX12 22 "GalleryRaysModel" "numbers" "[I", Cond.fieldLink RX12 25 "GalleryRaysModel" "rayPlace" "[I", Cond.fieldLink RX12 28 "GalleryRaysModel" "rayTime" "[J", Cond.fieldLink RX12 32 "GalleryRaysModel" "rayEnergy" "[I"]
def wsL_law_r6 : List Cond := [Cond.fieldLink RX12 35 "GalleryRaysModel" "rayStep" "[I", Cond.arrayClass .boolean, Cond.fieldLink RX12 38 "GalleryRaysModel" "isLive" "[Z", Cond.fieldLink RX12 42 "GalleryRaysModel" "hits" "[J", Cond.fieldLink RX12 45 "GalleryRaysModel" "isEcho" "[Z", Cond.fieldLink RX12 48 "GalleryRaysModel" "heardMany" "[I", Cond.fieldLink RX12 51 "GalleryRaysModel" "heardSum" "[J", Cond.fieldLink RX12 54 "GalleryRaysModel" "heardFirst" "[J", Cond.fieldLink RX12 57 "GalleryRaysModel" "heardMost" "[I", Cond.fieldLink RX12 60 "GalleryRaysModel" "isHit" "[Z", Cond.fieldLink RX12 63 "GalleryRaysModel" "ends" "[I", Cond.methodLink RL 13 yX11_add, Cond.instanceMethod yX11_add, Cond.selects RX11 yX11_add yX11_add, Cond.code yX11_add cX11_add 5 (some .int), Cond.constant RX11 43 (-100001), Cond.constant RX11 52 (-100003), Cond.methodLink RX11 37 yX4_isAllowed, Cond.static yX4_isAllowed, Cond.code yX4_isAllowed cX4_isAllowed 4 (some .boolean), Cond.methodLink RX4 15 yX0_isPlace, Cond.static yX0_isPlace, Cond.initialized RX0, Cond.code yX0_isPlace cX0_isPlace 1 (some .boolean)]
def wsL_law_r7 : List Cond := [Cond.methodLink RX4 21 yX4_leastBy, Cond.static yX4_leastBy, Cond.code yX4_leastBy cX4_leastBy 1 (some .int), Cond.methodLink RX4 28 yX4_mayBeNegative, Cond.static yX4_mayBeNegative, Cond.code yX4_mayBeNegative cX4_mayBeNegative 1 (some .boolean), Cond.methodLink RX4 25 yX4_mostBy, Cond.static yX4_mostBy, Cond.code yX4_mostBy cX4_mostBy 1 (some .int), Cond.methodLink RX11 53 yX2_keep, Cond.instanceMethod yX2_keep, Cond.selects RX2 yX2_keep yX2_keep, Cond.code yX2_keep cX2_keep 2 none, Cond.fieldLink RX2 18 "GalleryRays$History" "count" "I", Cond.methodLink RX2 22 yX2_dropOldest, Cond.instanceMethod yX2_dropOldest, Cond.selects RX2 yX2_dropOldest yX2_dropOldest, Cond.code yX2_dropOldest cX2_dropOldest 3 none, Cond.methodLink RX2 25 yX10_copyFrom, Cond.instanceMethod yX10_copyFrom, Cond.selects RX10 yX10_copyFrom yX10_copyFrom, Cond.code yX10_copyFrom cX10_copyFrom 2 none, Cond.methodLink RX10 23 yX4_copyFrom, Cond.instanceMethod yX4_copyFrom]
def wsL_law_r8 : List Cond := [Cond.selects RX4 yX4_copyFrom yX4_copyFrom, Cond.code yX4_copyFrom cX4_copyFrom 2 none, Cond.fieldLink RX4 41 "GalleryRays$Parts" "count" "I", Cond.methodLink RX4 62 arraycopyName, Cond.native arraycopyName, Cond.static arraycopyName, Cond.initialized "java/lang/System", Cond.methodLink RX11 57 yX4_append, Cond.instanceMethod yX4_append, Cond.selects RX4 yX4_append yX4_append, Cond.code yX4_append cX4_append 6 none, Cond.methodLink RL 17 yX12_add, Cond.instanceMethod yX12_add, Cond.selects RX12 yX12_add yX12_add, Cond.code yX12_add cX12_add 5 (some .int), Cond.constant RX12 78 (-100001), Cond.constant RX12 79 (-100003), Cond.methodLink RX12 70 yX12_in, Cond.static yX12_in, Cond.code yX12_in cX12_in 3 (some .boolean), Cond.methodLink RX12 74 yX12_isNumber, Cond.static yX12_isNumber, Cond.code yX12_isNumber cX12_isNumber 2 (some .boolean), Cond.methodLink RX12 80 yX12_act]
def wsL_law_r9 : List Cond := [Cond.instanceMethod yX12_act, Cond.selects RX12 yX12_act yX12_act, Cond.code yX12_act cX12_act 2 none, Cond.fieldLink RX12 66 "GalleryRaysModel" "pastMany" "I", Cond.methodLink RX12 83 yX12_adds, Cond.instanceMethod yX12_adds, Cond.selects RX12 yX12_adds yX12_adds, Cond.code yX12_adds cX12_adds 6 none, Cond.methodLink RL 18 yX11_remove, Cond.instanceMethod yX11_remove, Cond.selects RX11 yX11_remove yX11_remove, Cond.code yX11_remove cX11_remove 2 (some .int), Cond.methodLink RX11 61 yX4_has, Cond.instanceMethod yX4_has, Cond.selects RX4 yX4_has yX4_has, Cond.code yX4_has cX4_has 2 (some .boolean), Cond.methodLink RX11 65 yX4_takeOut, Cond.instanceMethod yX4_takeOut, Cond.selects RX4 yX4_takeOut yX4_takeOut, Cond.code yX4_takeOut cX4_takeOut 4 none, Cond.methodLink RX4 45 yX4_has, Cond.methodLink RL 22 yX12_remove, Cond.instanceMethod yX12_remove, Cond.selects RX12 yX12_remove yX12_remove]
def wsL_law_r10 : List Cond := [Cond.code yX12_remove cX12_remove 3 (some .int), Cond.methodLink RX12 87 yX12_isPart, Cond.instanceMethod yX12_isPart, Cond.selects RX12 yX12_isPart yX12_isPart, Cond.code yX12_isPart cX12_isPart 2 (some .boolean), Cond.methodLink RL 23 yX11_part, Cond.instanceMethod yX11_part, Cond.selects RX11 yX11_part yX11_part, Cond.code yX11_part cX11_part 3 (some .int), Cond.methodLink RX11 69 yX4_numberOf, Cond.instanceMethod yX4_numberOf, Cond.selects RX4 yX4_numberOf yX4_numberOf, Cond.code yX4_numberOf cX4_numberOf 3 (some .int), Cond.constant RX4 48 (-100001), Cond.methodLink RL 27 yX12_part, Cond.instanceMethod yX12_part, Cond.selects RX12 yX12_part yX12_part, Cond.code yX12_part cX12_part 3 (some .int), Cond.methodLink RL 28 yX11_parts, Cond.instanceMethod yX11_parts, Cond.selects RX11 yX11_parts yX11_parts, Cond.code yX11_parts cX11_parts 1 (some .int), Cond.methodLink RL 32 yX12_parts, Cond.instanceMethod yX12_parts]
def wsL_law_r11 : List Cond := [Cond.selects RX12 yX12_parts yX12_parts, Cond.code yX12_parts cX12_parts 1 (some .int), Cond.methodLink RL 33 yX11_setLoss, Cond.instanceMethod yX11_setLoss, Cond.selects RX11 yX11_setLoss yX11_setLoss, Cond.code yX11_setLoss cX11_setLoss 3 (some .int), Cond.methodLink RL 36 yX12_setLoss, Cond.instanceMethod yX12_setLoss, Cond.selects RX12 yX12_setLoss yX12_setLoss, Cond.code yX12_setLoss cX12_setLoss 2 (some .int), Cond.methodLink RX12 91 yX12_sets, Cond.instanceMethod yX12_sets, Cond.selects RX12 yX12_sets yX12_sets, Cond.code yX12_sets cX12_sets 4 (some .int), Cond.methodLink RL 37 yX11_setThreshold, Cond.instanceMethod yX11_setThreshold, Cond.selects RX11 yX11_setThreshold yX11_setThreshold, Cond.code yX11_setThreshold cX11_setThreshold 3 (some .int), Cond.constant RX11 76 (1000000), Cond.methodLink RL 40 yX12_setThreshold, Cond.instanceMethod yX12_setThreshold, Cond.selects RX12 yX12_setThreshold yX12_setThreshold, Cond.code yX12_setThreshold cX12_setThreshold 2 (some .int), Cond.constant RX12 95 (1000000)]
def wsL_law_r12 : List Cond := [Cond.methodLink RL 41 yX11_type, Cond.instanceMethod yX11_type, Cond.selects RX11 yX11_type yX11_type, Cond.code yX11_type cX11_type 2 (some .int), Cond.methodLink RX11 83 yX9_append, Cond.instanceMethod yX9_append, Cond.selects RX9 yX9_append yX9_append, Cond.code yX9_append cX9_append 2 none, Cond.fieldLink RX9 22 "GalleryRays$Text" "length" "I", Cond.methodLink RL 44 yX12_type, Cond.instanceMethod yX12_type, Cond.selects RX12 yX12_type yX12_type, Cond.code yX12_type cX12_type 2 (some .int), Cond.fieldLink RX12 96 "GalleryRaysModel" "typed" "I", Cond.methodLink RL 45 yX11_clear, Cond.instanceMethod yX11_clear, Cond.selects RX11 yX11_clear yX11_clear, Cond.code yX11_clear cX11_clear 2 (some .int), Cond.methodLink RL 48 yX12_clear, Cond.instanceMethod yX12_clear, Cond.selects RX12 yX12_clear yX12_clear, Cond.code yX12_clear cX12_clear 2 (some .int), Cond.methodLink RL 49 yX11_read, Cond.instanceMethod yX11_read]
def wsL_law_r13 : List Cond := [Cond.selects RX11 yX11_read yX11_read, Cond.code yX11_read cX11_read 2 (some .int), Cond.methodLink RX11 86 yX9_errorPlace, Cond.instanceMethod yX9_errorPlace, Cond.selects RX9 yX9_errorPlace yX9_errorPlace, Cond.code yX9_errorPlace cX9_errorPlace 2 (some .int), Cond.fieldLink RX9 29 "GalleryRays$Text" "at" "I", Cond.fieldLink RX9 32 "GalleryRays$Text" "broken" "Z", Cond.fieldLink RX9 36 "GalleryRays$Text" "outOfRange" "I", Cond.methodLink RX9 39 yX9_readOne, Cond.instanceMethod yX9_readOne, Cond.selects RX9 yX9_readOne yX9_readOne, Cond.code yX9_readOne cX9_readOne 5 none, Cond.methodLink RX9 46 yX9_takeWord, Cond.instanceMethod yX9_takeWord, Cond.selects RX9 yX9_takeWord yX9_takeWord, Cond.code yX9_takeWord cX9_takeWord 5 (some .int), Cond.methodLink RX9 88 Lib.Math.max.name, Cond.static Lib.Math.max.name, Cond.initialized "java/lang/Math", Cond.code Lib.Math.max.name Lib.Math.max.code 2 (some .int), Cond.methodLink RX9 76 yX4_word, Cond.static yX4_word, Cond.code yX4_word cX4_word 1 (some (.object "java/lang/String"))]
def wsL_law_r14 : List Cond := [Cond.methodLink RX9 80 yX9_sameSigns, Cond.instanceMethod yX9_sameSigns, Cond.selects RX9 yX9_sameSigns yX9_sameSigns, Cond.code yX9_sameSigns cX9_sameSigns 3 (some .int), Cond.methodLink RX9 84 yJ0_length_8abf5, Cond.instanceMethod yJ0_length_8abf5, Cond.selects RJ0 yJ0_length_8abf5 yJ0_length_8abf5, Cond.initialized RJ0, Cond.code yJ0_length_8abf5 cJ0_length_8abf5 1 (some .int), Cond.fieldLink RJ0 9 "java/lang/String" "value" "[B", Cond.methodLink RJ0 335 yJ0_coder_7d493, Cond.instanceMethod yJ0_coder_7d493, Cond.selects RJ0 yJ0_coder_7d493 yJ0_coder_7d493, Cond.code yJ0_coder_7d493 cJ0_coder_7d493 1 (some .byte), Cond.fieldLink RJ0 38 "java/lang/String" "COMPACT_STRINGS" "Z", Cond.fieldLink RJ0 15 "java/lang/String" "coder" "B", Cond.methodLink RX9 72 yX9_signAt, Cond.instanceMethod yX9_signAt, Cond.selects RX9 yX9_signAt yX9_signAt, Cond.code yX9_signAt cX9_signAt 2 (some .char), Cond.methodLink RX9 94 yJ0_charAt_5068e, Cond.instanceMethod yJ0_charAt_5068e, Cond.selects RJ0 yJ0_charAt_5068e yJ0_charAt_5068e, Cond.code yJ0_charAt_5068e cJ0_charAt_5068e 2 (some .char)]
def wsL_law_r15 : List Cond := [Cond.methodLink RJ0 492 yJ0_isLatin1_aae02, Cond.instanceMethod yJ0_isLatin1_aae02, Cond.selects RJ0 yJ0_isLatin1_aae02 yJ0_isLatin1_aae02, Cond.code yJ0_isLatin1_aae02 cJ0_isLatin1_aae02 1 (some .boolean), Cond.methodLink RJ0 495 yJ1_charAt_3b067, Cond.static yJ1_charAt_3b067, Cond.initialized RJ1, Cond.code yJ1_charAt_3b067 cJ1_charAt_3b067 2 (some .char), Cond.methodLink RJ1 9 yJ0_checkIndex_df160, Cond.static yJ0_checkIndex_df160, Cond.code yJ0_checkIndex_df160 cJ0_checkIndex_df160 2 none, Cond.fieldLink RJ0 1053 "jdk/internal/util/Preconditions" "SIOOBE_FORMATTER" "Ljava/util/function/BiFunction;", Cond.methodLink RJ0 1059 yJ3_checkIndex_8e157, Cond.static yJ3_checkIndex_8e157, Cond.initialized RJ3, Cond.code yJ3_checkIndex_8e157 cJ3_checkIndex_8e157 3 (some .int), Cond.methodLink RJ0 498 yJ2_charAt_3b067, Cond.static yJ2_charAt_3b067, Cond.initialized RJ2, Cond.code yJ2_charAt_3b067 cJ2_charAt_3b067 2 (some .char), Cond.methodLink RJ2 67 yJ2_checkIndex_2214a, Cond.static yJ2_checkIndex_2214a, Cond.code yJ2_checkIndex_2214a cJ2_checkIndex_2214a 2 none, Cond.methodLink RJ2 48 yJ2_length_9d52b]
def wsL_law_r16 : List Cond := [Cond.static yJ2_length_9d52b, Cond.code yJ2_length_9d52b cJ2_length_9d52b 1 (some .int), Cond.methodLink RJ2 414 yJ0_checkIndex_df160, Cond.methodLink RJ2 71 yJ2_getChar_3b067, Cond.static yJ2_getChar_3b067, Cond.code yJ2_getChar_3b067 cJ2_getChar_3b067 2 (some .char), Cond.fieldLink RJ2 44 "java/lang/StringUTF16" "$assertionsDisabled" "Z", Cond.fieldLink RJ2 59 "java/lang/StringUTF16" "HI_BYTE_SHIFT" "I", Cond.fieldLink RJ2 63 "java/lang/StringUTF16" "LO_BYTE_SHIFT" "I", Cond.methodLink RX9 42 yX9_take, Cond.instanceMethod yX9_take, Cond.selects RX9 yX9_take yX9_take, Cond.code yX9_take cX9_take 2 none, Cond.methodLink RX9 50 yX9_takeNumber, Cond.instanceMethod yX9_takeNumber, Cond.selects RX9 yX9_takeNumber yX9_takeNumber, Cond.code yX9_takeNumber cX9_takeNumber 7 (some .int), Cond.methodLink RX9 97 yX9_isDigit, Cond.static yX9_isDigit, Cond.code yX9_isDigit cX9_isDigit 1 (some .boolean), Cond.methodLink RX9 54 yX4_hasBy, Cond.static yX4_hasBy, Cond.code yX4_hasBy cX4_hasBy 1 (some .boolean), Cond.methodLink RX9 58 yX4_leastBy]
def wsL_law_r17 : List Cond := [Cond.methodLink RX9 62 yX4_mostBy, Cond.methodLink RX9 65 yX4_mayBeNegative, Cond.methodLink RX9 68 yX4_append, Cond.methodLink RX11 93 yX4_appendAll, Cond.instanceMethod yX4_appendAll, Cond.selects RX4 yX4_appendAll yX4_appendAll, Cond.code yX4_appendAll cX4_appendAll 3 none, Cond.methodLink RX4 49 yX4_numberOf, Cond.methodLink RX4 58 yX4_append, Cond.methodLink RL 52 yX12_read, Cond.instanceMethod yX12_read, Cond.selects RX12 yX12_read yX12_read, Cond.code yX12_read cX12_read 3 (some .int), Cond.fieldLink RX12 113 "GalleryRaysModel" "found" "I", Cond.methodLink RX12 130 yX12_wrongAt, Cond.instanceMethod yX12_wrongAt, Cond.selects RX12 yX12_wrongAt yX12_wrongAt, Cond.code yX12_wrongAt cX12_wrongAt 2 (some .int), Cond.fieldLink RX12 99 "GalleryRaysModel" "at" "I", Cond.fieldLink RX12 116 "GalleryRaysModel" "wrong" "I", Cond.methodLink RX12 127 yX12_readsPart, Cond.instanceMethod yX12_readsPart, Cond.selects RX12 yX12_readsPart yX12_readsPart, Cond.code yX12_readsPart cX12_readsPart 3 (some .boolean)]
def wsL_law_r18 : List Cond := [Cond.methodLink RX12 119 yX12_word, Cond.instanceMethod yX12_word, Cond.selects RX12 yX12_word yX12_word, Cond.code yX12_word cX12_word 3 (some .boolean), Cond.methodLink RX12 106 yX12_takes, Cond.instanceMethod yX12_takes, Cond.selects RX12 yX12_takes yX12_takes, Cond.code yX12_takes cX12_takes 3 (some .boolean), Cond.methodLink RX12 102 yX12_sign, Cond.instanceMethod yX12_sign, Cond.selects RX12 yX12_sign yX12_sign, Cond.code yX12_sign cX12_sign 1 (some .int), Cond.methodLink RX12 109 yX12_four, Cond.instanceMethod yX12_four, Cond.selects RX12 yX12_four yX12_four, Cond.code yX12_four cX12_four 5 (some .boolean), Cond.methodLink RX12 123 yX12_number, Cond.instanceMethod yX12_number, Cond.selects RX12 yX12_number yX12_number, Cond.code yX12_number cX12_number 8 (some .boolean), Cond.methodLink RL 53 yX11_shoot, Cond.instanceMethod yX11_shoot, Cond.selects RX11 yX11_shoot yX11_shoot, Cond.code yX11_shoot cX11_shoot 4 (some .int)]
def wsL_law_r19 : List Cond := [Cond.methodLink RX11 97 yX0_isPlace, Cond.methodLink RX11 102 yX0_isStep, Cond.static yX0_isStep, Cond.code yX0_isStep cX0_isStep 1 (some .boolean), Cond.methodLink RX11 105 yX8_run, Cond.instanceMethod yX8_run, Cond.selects RX8 yX8_run yX8_run, Cond.code yX8_run cX8_run 7 none, Cond.fieldLink RX8 56 "GalleryRays$Shot" "rayCount" "I", Cond.methodLink RX8 48 yX3_forget, Cond.instanceMethod yX3_forget, Cond.selects RX3 yX3_forget yX3_forget, Cond.code yX3_forget cX3_forget 1 none, Cond.fieldLink RX3 19 "GalleryRays$HitLog" "count" "I", Cond.fieldLink RX3 23 "GalleryRays$HitLog" "echoCount" "I", Cond.fieldLink RX3 26 "GalleryRays$HitLog" "energySum" "J", Cond.methodLink RX8 51 yX6_forget, Cond.instanceMethod yX6_forget, Cond.selects RX6 yX6_forget yX6_forget, Cond.code yX6_forget cX6_forget 2 none, Cond.fieldLink RX6 15 "GalleryRays$PlaceMarks" "count" "I", Cond.methodLink RX8 52 yX1_forget, Cond.methodLink RX8 53 yX5_startAt, Cond.instanceMethod yX5_startAt]
def wsL_law_r20 : List Cond := [Cond.selects RX5 yX5_startAt yX5_startAt, Cond.code yX5_startAt cX5_startAt 2 none, Cond.fieldLink RX5 15 "GalleryRays$Path" "count" "I", Cond.methodLink RX5 19 yX5_goTo, Cond.instanceMethod yX5_goTo, Cond.selects RX5 yX5_goTo yX5_goTo, Cond.code yX5_goTo cX5_goTo 2 none, Cond.methodLink RX8 60 yX0_chordTime, Cond.static yX0_chordTime, Cond.code yX0_chordTime cX0_chordTime 1 (some .int), Cond.constant RX0 21 (2000000), Cond.methodLink RX0 22 Lib.Math.abs.name, Cond.static Lib.Math.abs.name, Cond.code Lib.Math.abs.name Lib.Math.abs.code 1 (some .int), Cond.methodLink RX0 26 yX0_sine, Cond.static yX0_sine, Cond.code yX0_sine cX0_sine 4 (some .int), Cond.constantLong RX0 15 (16), Cond.constantLong RX0 17 (3841992000), Cond.constantLong RX0 19 (4), Cond.methodLink RX8 66 yX8_begin, Cond.instanceMethod yX8_begin, Cond.selects RX8 yX8_begin yX8_begin, Cond.code yX8_begin cX8_begin 6 none]
def wsL_law_r21 : List Cond := [Cond.methodLink RX8 78 yX7_start, Cond.instanceMethod yX7_start, Cond.selects RX7 yX7_start yX7_start, Cond.code yX7_start cX7_start 6 none, Cond.fieldLink RX7 13 "GalleryRays$Ray" "place" "I", Cond.fieldLink RX7 16 "GalleryRays$Ray" "step" "I", Cond.fieldLink RX7 19 "GalleryRays$Ray" "energy" "I", Cond.fieldLink RX7 22 "GalleryRays$Ray" "arrival" "J", Cond.fieldLink RX7 26 "GalleryRays$Ray" "going" "Z", Cond.methodLink RX8 70 yX8_earliest, Cond.instanceMethod yX8_earliest, Cond.selects RX8 yX8_earliest yX8_earliest, Cond.code yX8_earliest cX8_earliest 4 (some (.object "GalleryRays$Ray")), Cond.methodLink RX8 74 yX8_meet, Cond.instanceMethod yX8_meet, Cond.selects RX8 yX8_meet yX8_meet, Cond.code yX8_meet cX8_meet 4 none, Cond.methodLink RX8 95 yX0_placeAfter, Cond.static yX0_placeAfter, Cond.code yX0_placeAfter cX0_placeAfter 2 (some .int), Cond.methodLink RX0 9 yJ9_floorMod_7cf53, Cond.static yJ9_floorMod_7cf53, Cond.initialized RJ9, Cond.code yJ9_floorMod_7cf53 cJ9_floorMod_7cf53 3 (some .int)]
def wsL_law_r22 : List Cond := [Cond.methodLink RX8 99 yX3_note, Cond.instanceMethod yX3_note, Cond.selects RX3 yX3_note yX3_note, Cond.code yX3_note cX3_note 3 none, Cond.methodLink RX8 103 yX6_mark, Cond.instanceMethod yX6_mark, Cond.selects RX6 yX6_mark yX6_mark, Cond.code yX6_mark cX6_mark 4 none, Cond.methodLink RX6 19 yX0_isPlace, Cond.methodLink RX8 109 yX5_goTo, Cond.methodLink RX8 117 yX7_lose, Cond.instanceMethod yX7_lose, Cond.selects RX7 yX7_lose yX7_lose, Cond.code yX7_lose cX7_lose 2 none, Cond.methodLink RX8 129 yX4_covers, Cond.instanceMethod yX4_covers, Cond.selects RX4 yX4_covers yX4_covers, Cond.code yX4_covers cX4_covers 3 (some .boolean), Cond.methodLink RX4 53 yJ9_floorMod_7cf53, Cond.methodLink RX8 133 yX8_act, Cond.instanceMethod yX8_act, Cond.selects RX8 yX8_act yX8_act, Cond.code yX8_act cX8_act 5 none, Cond.methodLink RX8 143 yX4_numberOf]
def wsL_law_r23 : List Cond := [Cond.methodLink RX8 146 yX7_tilt, Cond.instanceMethod yX7_tilt, Cond.selects RX7 yX7_tilt yX7_tilt, Cond.code yX7_tilt cX7_tilt 3 none, Cond.methodLink RX7 30 yX0_tilted, Cond.static yX0_tilted, Cond.code yX0_tilted cX0_tilted 3 (some .int), Cond.methodLink RX8 149 yX8_split, Cond.instanceMethod yX8_split, Cond.selects RX8 yX8_split yX8_split, Cond.code yX8_split cX8_split 6 none, Cond.methodLink RX8 160 yX0_tilted, Cond.methodLink RX8 153 yX1_hear, Cond.instanceMethod yX1_hear, Cond.selects RX1 yX1_hear yX1_hear, Cond.code yX1_hear cX1_hear 4 none, Cond.methodLink RX1 30 Lib.MathLoose.max_long.x, Cond.static Lib.MathLoose.max_long.x, Cond.code Lib.MathLoose.max_long.x Lib.MathLoose.max_long.code 4 (some .long), Cond.methodLink RX8 157 yX3_noteEcho, Cond.instanceMethod yX3_noteEcho, Cond.selects RX3 yX3_noteEcho yX3_noteEcho, Cond.code yX3_noteEcho cX3_noteEcho 2 none, Cond.methodLink RL 57 yX12_shoot]
def wsL_law_r24 : List Cond := [Cond.instanceMethod yX12_shoot, Cond.selects RX12 yX12_shoot yX12_shoot, Cond.code yX12_shoot cX12_shoot 5 (some .int), Cond.fieldLink RX12 194 "GalleryRaysModel" "shots" "I", Cond.fieldLink RX12 197 "GalleryRaysModel" "begin" "I", Cond.fieldLink RX12 169 "GalleryRaysModel" "rayMany" "I", Cond.fieldLink RX12 172 "GalleryRaysModel" "hitMany" "I", Cond.methodLink RX12 165 yX12_isPlace, Cond.static yX12_isPlace, Cond.code yX12_isPlace cX12_isPlace 1 (some .boolean), Cond.methodLink RX12 147 yX12_isStep, Cond.static yX12_isStep, Cond.code yX12_isStep cX12_isStep 1 (some .boolean), Cond.methodLink RX12 180 yX12_begins, Cond.instanceMethod yX12_begins, Cond.selects RX12 yX12_begins yX12_begins, Cond.code yX12_begins cX12_begins 6 none, Cond.methodLink RX12 200 yX12_next, Cond.instanceMethod yX12_next, Cond.selects RX12 yX12_next yX12_next, Cond.code yX12_next cX12_next 7 (some .int), Cond.constant RX12 168 (-100009), Cond.methodLink RX12 150 yX12_chord, Cond.static yX12_chord]
def wsL_law_r25 : List Cond := [Cond.code yX12_chord cX12_chord 1 (some .int), Cond.constantLong RX12 141 (2000000), Cond.methodLink RX12 143 yX12_wide, Cond.static yX12_wide, Cond.code yX12_wide cX12_wide 6 (some .int), Cond.constantLong RX12 133 (27720), Cond.constantLong RX12 135 (16), Cond.constantLong RX12 137 (3841992000), Cond.constantLong RX12 139 (4), Cond.methodLink RX12 203 yX12_goes, Cond.instanceMethod yX12_goes, Cond.selects RX12 yX12_goes yX12_goes, Cond.code yX12_goes cX12_goes 4 none, Cond.constantLong RX12 175 (1000), Cond.methodLink RX12 188 yX12_covers, Cond.instanceMethod yX12_covers, Cond.selects RX12 yX12_covers yX12_covers, Cond.code yX12_covers cX12_covers 3 (some .boolean), Cond.methodLink RX12 191 yX12_meets, Cond.instanceMethod yX12_meets, Cond.selects RX12 yX12_meets yX12_meets, Cond.code yX12_meets cX12_meets 5 none, Cond.methodLink RX12 177 yX12_tilted, Cond.static yX12_tilted]
def wsL_law_r26 : List Cond := [Cond.code yX12_tilted cX12_tilted 3 (some .int), Cond.methodLink RX12 184 yX12_hears, Cond.instanceMethod yX12_hears, Cond.selects RX12 yX12_hears yX12_hears, Cond.code yX12_hears cX12_hears 3 none, Cond.methodLink RL 58 yX11_hits, Cond.instanceMethod yX11_hits, Cond.selects RX11 yX11_hits yX11_hits, Cond.code yX11_hits cX11_hits 1 (some .int), Cond.methodLink RL 61 yX12_hits, Cond.instanceMethod yX12_hits, Cond.selects RX12 yX12_hits yX12_hits, Cond.code yX12_hits cX12_hits 1 (some .int), Cond.methodLink RL 62 yX11_hit, Cond.instanceMethod yX11_hit, Cond.selects RX11 yX11_hit yX11_hit, Cond.code yX11_hit cX11_hit 3 (some .long), Cond.methodLink RX11 116 yX3_numberOf, Cond.instanceMethod yX3_numberOf, Cond.selects RX3 yX3_numberOf yX3_numberOf, Cond.code yX3_numberOf cX3_numberOf 3 (some .long), Cond.constantLong RX3 47 (-100001), Cond.methodLink RL 66 yX12_hit, Cond.instanceMethod yX12_hit]
def wsL_law_r27 : List Cond := [Cond.selects RX12 yX12_hit yX12_hit, Cond.code yX12_hit cX12_hit 3 (some .long), Cond.constantLong RX12 207 (-100001), Cond.methodLink RL 67 yX11_rays, Cond.instanceMethod yX11_rays, Cond.selects RX11 yX11_rays yX11_rays, Cond.code yX11_rays cX11_rays 1 (some .int), Cond.methodLink RL 70 yX12_rays, Cond.instanceMethod yX12_rays, Cond.selects RX12 yX12_rays yX12_rays, Cond.code yX12_rays cX12_rays 1 (some .int), Cond.methodLink RL 71 yX11_coverage, Cond.instanceMethod yX11_coverage, Cond.selects RX11 yX11_coverage yX11_coverage, Cond.code yX11_coverage cX11_coverage 1 (some .int), Cond.methodLink RL 74 yX12_coverage, Cond.instanceMethod yX12_coverage, Cond.selects RX12 yX12_coverage yX12_coverage, Cond.code yX12_coverage cX12_coverage 1 (some .int), Cond.methodLink RX12 209 yX12_covered, Cond.instanceMethod yX12_covered, Cond.selects RX12 yX12_covered yX12_covered, Cond.code yX12_covered cX12_covered 4 (some .int), Cond.methodLink RL 75 yX11_gap]
def wsL_law_r28 : List Cond := [Cond.instanceMethod yX11_gap, Cond.selects RX11 yX11_gap yX11_gap, Cond.code yX11_gap cX11_gap 1 (some .int), Cond.methodLink RX11 129 yX6_longestGap, Cond.instanceMethod yX6_longestGap, Cond.selects RX6 yX6_longestGap yX6_longestGap, Cond.code yX6_longestGap cX6_longestGap 9 (some .int), Cond.methodLink RX6 34 Lib.Math.max.name, Cond.methodLink RX6 31 yX6_lowestBit, Cond.static yX6_lowestBit, Cond.code yX6_lowestBit cX6_lowestBit 2 (some .int), Cond.methodLink RX6 25 yJ13_bitCount_95d88, Cond.static yJ13_bitCount_95d88, Cond.initialized RJ13, Cond.code yJ13_bitCount_95d88 cJ13_bitCount_95d88 2 (some .int), Cond.constantLong RJ13 314 (6148914691236517205), Cond.constantLong RJ13 316 (3689348814741910323), Cond.constantLong RJ13 318 (1085102592571150095), Cond.methodLink RL 78 yX12_gap, Cond.instanceMethod yX12_gap, Cond.selects RX12 yX12_gap yX12_gap, Cond.code yX12_gap cX12_gap 4 (some .int), Cond.constant RX12 212 (55440), Cond.methodLink RL 79 yX11_heard]
def wsL_law_r29 : List Cond := [Cond.instanceMethod yX11_heard, Cond.selects RX11 yX11_heard yX11_heard, Cond.code yX11_heard cX11_heard 3 (some .long), Cond.methodLink RX11 136 yX1_numberOf, Cond.instanceMethod yX1_numberOf, Cond.selects RX1 yX1_numberOf yX1_numberOf, Cond.code yX1_numberOf cX1_numberOf 3 (some .long), Cond.constantLong RX1 36 (-100001), Cond.methodLink RL 82 yX12_heard, Cond.instanceMethod yX12_heard, Cond.selects RX12 yX12_heard yX12_heard, Cond.code yX12_heard cX12_heard 3 (some .long), Cond.methodLink RX12 215 yX12_heardOf, Cond.instanceMethod yX12_heardOf, Cond.selects RX12 yX12_heardOf yX12_heardOf, Cond.code yX12_heardOf cX12_heardOf 3 (some .long), Cond.constantLong RX12 213 (-100009), Cond.methodLink RL 83 yX11_echo, Cond.instanceMethod yX11_echo, Cond.selects RX11 yX11_echo yX11_echo, Cond.code yX11_echo cX11_echo 2 (some .int), Cond.methodLink RX11 139 yX3_echoAt, Cond.instanceMethod yX3_echoAt, Cond.selects RX3 yX3_echoAt yX3_echoAt]
def wsL_law_r30 : List Cond := [Cond.code yX3_echoAt cX3_echoAt 2 (some .int), Cond.constant RX3 49 (-100001), Cond.constant RX3 50 (-100009), Cond.methodLink RL 86 yX12_echo, Cond.instanceMethod yX12_echo, Cond.selects RX12 yX12_echo yX12_echo, Cond.code yX12_echo cX12_echo 4 (some .int), Cond.methodLink RL 87 yX11_mean, Cond.instanceMethod yX11_mean, Cond.selects RX11 yX11_mean yX11_mean, Cond.code yX11_mean cX11_mean 1 (some .float), Cond.methodLink RX11 143 yX3_meanEnergy, Cond.instanceMethod yX3_meanEnergy, Cond.selects RX3 yX3_meanEnergy yX3_meanEnergy, Cond.code yX3_meanEnergy cX3_meanEnergy 1 (some .float), Cond.methodLink RL 91 yX12_mean, Cond.instanceMethod yX12_mean, Cond.selects RX12 yX12_mean yX12_mean, Cond.code yX12_mean cX12_mean 4 (some .float), Cond.methodLink RL 92 yX11_crossings, Cond.instanceMethod yX11_crossings, Cond.selects RX11 yX11_crossings yX11_crossings, Cond.code yX11_crossings cX11_crossings 2 (some .int), Cond.methodLink RX11 151 yX5_crossingPairs]
def wsL_law_r31 : List Cond := [Cond.instanceMethod yX5_crossingPairs, Cond.selects RX5 yX5_crossingPairs yX5_crossingPairs, Cond.code yX5_crossingPairs cX5_crossingPairs 6 (some .int), Cond.methodLink RX5 23 Lib.Math.min.name, Cond.static Lib.Math.min.name, Cond.code Lib.Math.min.name Lib.Math.min.code 2 (some .int), Cond.methodLink RX5 29 yX5_cross, Cond.static yX5_cross, Cond.code yX5_cross cX5_cross 6 (some .boolean), Cond.methodLink RX5 33 Lib.Math.max.name, Cond.methodLink RX5 36 yX5_isBetween, Cond.static yX5_isBetween, Cond.code yX5_isBetween cX5_isBetween 3 (some .boolean), Cond.methodLink RX5 40 yX5_isBeyond, Cond.static yX5_isBeyond, Cond.code yX5_isBeyond cX5_isBeyond 3 (some .boolean), Cond.methodLink RL 95 yX12_crossings, Cond.instanceMethod yX12_crossings, Cond.selects RX12 yX12_crossings yX12_crossings, Cond.code yX12_crossings cX12_crossings 6 (some .int), Cond.methodLink RX12 222 yX12_crosses, Cond.instanceMethod yX12_crosses, Cond.selects RX12 yX12_crosses yX12_crosses, Cond.code yX12_crosses cX12_crosses 8 (some .boolean)]
def wsL_law_r32 : List Cond := [Cond.methodLink RX12 219 yX12_between, Cond.static yX12_between, Cond.code yX12_between cX12_between 3 (some .boolean), Cond.methodLink RL 96 yX11_time, Cond.instanceMethod yX11_time, Cond.selects RX11 yX11_time yX11_time, Cond.code yX11_time cX11_time 2 (some .int), Cond.methodLink RX11 156 yX0_chordTime, Cond.methodLink RL 99 yX12_time, Cond.instanceMethod yX12_time, Cond.selects RX12 yX12_time yX12_time, Cond.code yX12_time cX12_time 2 (some .int), Cond.methodLink RL 100 yX11_caustic, Cond.instanceMethod yX11_caustic, Cond.selects RX11 yX11_caustic yX11_caustic, Cond.code yX11_caustic cX11_caustic 2 (some .int), Cond.methodLink RX11 159 yX0_causticRadius, Cond.static yX0_causticRadius, Cond.code yX0_causticRadius cX0_causticRadius 1 (some .int), Cond.constant RX0 31 (1000000), Cond.methodLink RL 103 yX12_caustic, Cond.instanceMethod yX12_caustic, Cond.selects RX12 yX12_caustic yX12_caustic, Cond.code yX12_caustic cX12_caustic 2 (some .int)]
def wsL_law_r33 : List Cond := [Cond.methodLink RX12 156 yX12_circle, Cond.static yX12_circle, Cond.code yX12_circle cX12_circle 1 (some .int), Cond.constantLong RX12 154 (1000000), Cond.methodLink RL 104 yX11_order, Cond.instanceMethod yX11_order, Cond.selects RX11 yX11_order yX11_order, Cond.code yX11_order cX11_order 2 (some .int), Cond.methodLink RX11 162 yX0_sharedDivisor, Cond.static yX0_sharedDivisor, Cond.code yX0_sharedDivisor cX0_sharedDivisor 5 (some .int), Cond.methodLink RL 107 yX12_order, Cond.instanceMethod yX12_order, Cond.selects RX12 yX12_order yX12_order, Cond.code yX12_order cX12_order 2 (some .int), Cond.methodLink RX12 159 yX12_size, Cond.static yX12_size, Cond.code yX12_size cX12_size 1 (some .int), Cond.methodLink RX12 162 yX12_common, Cond.static yX12_common, Cond.code yX12_common cX12_common 4 (some .int), Cond.methodLink RL 108 yX11_turns, Cond.instanceMethod yX11_turns, Cond.selects RX11 yX11_turns yX11_turns]
def wsL_law_r34 : List Cond := [Cond.code yX11_turns cX11_turns 2 (some .int), Cond.methodLink RX11 165 Lib.Math.abs.name, Cond.methodLink RL 111 yX12_turns, Cond.instanceMethod yX12_turns, Cond.selects RX12 yX12_turns yX12_turns, Cond.code yX12_turns cX12_turns 2 (some .int), Cond.methodLink RL 112 yX11_aim, Cond.instanceMethod yX11_aim, Cond.selects RX11 yX11_aim yX11_aim, Cond.code yX11_aim cX11_aim 5 (some .int), Cond.constant RX11 173 (-100009), Cond.methodLink RX11 170 yX0_smallestStep, Cond.static yX0_smallestStep, Cond.code yX0_smallestStep cX0_smallestStep 5 (some .int), Cond.methodLink RX0 32 yX0_isStep, Cond.methodLink RX0 36 yX0_isBetter, Cond.static yX0_isBetter, Cond.code yX0_isBetter cX0_isBetter 4 (some .boolean), Cond.methodLink RL 115 yX12_aim, Cond.instanceMethod yX12_aim, Cond.selects RX12 yX12_aim yX12_aim, Cond.code yX12_aim cX12_aim 7 (some .int), Cond.methodLink RL 116 yX11_widest, Cond.instanceMethod yX11_widest]
def wsL_law_r35 : List Cond := [Cond.selects RX11 yX11_widest yX11_widest, Cond.code yX11_widest cX11_widest 2 (some .int), Cond.methodLink RL 119 yX12_widest, Cond.instanceMethod yX12_widest, Cond.selects RX12 yX12_widest yX12_widest, Cond.code yX12_widest cX12_widest 6 (some .int), Cond.methodLink RL 120 yX11_undo, Cond.instanceMethod yX11_undo, Cond.selects RX11 yX11_undo yX11_undo, Cond.code yX11_undo cX11_undo 1 (some .int), Cond.methodLink RX11 175 yX2_restore, Cond.instanceMethod yX2_restore, Cond.selects RX2 yX2_restore yX2_restore, Cond.code yX2_restore cX2_restore 2 none, Cond.methodLink RL 123 yX12_undo, Cond.instanceMethod yX12_undo, Cond.selects RX12 yX12_undo yX12_undo, Cond.code yX12_undo cX12_undo 2 (some .int), Cond.methodLink RL 124 yX11_fingerprint, Cond.instanceMethod yX11_fingerprint, Cond.selects RX11 yX11_fingerprint yX11_fingerprint, Cond.code yX11_fingerprint cX11_fingerprint 5 (some .long), Cond.constantLong RX11 178 (127), Cond.methodLink RX11 180 yX11_parts]
def wsL_law_r36 : List Cond := [Cond.methodLink RX11 182 yX11_mixed, Cond.static yX11_mixed, Cond.code yX11_mixed cX11_mixed 4 (some .long), Cond.constantLong RX11 204 (31), Cond.methodLink RX11 186 yX11_part, Cond.methodLink RX11 189 yX11_hits, Cond.methodLink RX11 192 yX11_rays, Cond.methodLink RX11 195 yX11_coverage, Cond.methodLink RX11 198 yX11_hit, Cond.methodLink RX11 201 yX11_heard, Cond.methodLink RL 128 yX12_fingerprint, Cond.instanceMethod yX12_fingerprint, Cond.selects RX12 yX12_fingerprint yX12_fingerprint, Cond.code yX12_fingerprint cX12_fingerprint 5 (some .long), Cond.constantLong RX12 225 (3937), Cond.constantLong RX12 227 (31)]
def wsL_law : List Cond := (wsL_law_r1 ++ (wsL_law_r2 ++ (wsL_law_r3 ++ (wsL_law_r4 ++ (wsL_law_r5 ++ (wsL_law_r6 ++ (wsL_law_r7 ++ (wsL_law_r8 ++ (wsL_law_r9 ++ (wsL_law_r10 ++ (wsL_law_r11 ++ (wsL_law_r12 ++ (wsL_law_r13 ++ (wsL_law_r14 ++ (wsL_law_r15 ++ (wsL_law_r16 ++ (wsL_law_r17 ++ (wsL_law_r18 ++ (wsL_law_r19 ++ (wsL_law_r20 ++ (wsL_law_r21 ++ (wsL_law_r22 ++ (wsL_law_r23 ++ (wsL_law_r24 ++ (wsL_law_r25 ++ (wsL_law_r26 ++ (wsL_law_r27 ++ (wsL_law_r28 ++ (wsL_law_r29 ++ (wsL_law_r30 ++ (wsL_law_r31 ++ (wsL_law_r32 ++ (wsL_law_r33 ++ (wsL_law_r34 ++ (wsL_law_r35 ++ wsL_law_r36))))))))))))))))))))))))))))))))))) ++ wsX110 ++ wsX120 ++ wsX100 ++ wsX20 ++ wsX90 ++ wsX80 ++ wsX40 ++ wsX30 ++ wsX60 ++ wsX10 ++ wsX50 ++ wsX70 ++ ([] : List Cond)
set_option maxRecDepth 20000 in
theorem wsL_law_in : ∀ w ∈ wsL_law, w ∈ lw_tbl := fun w h => (goodIn_p wsL_law [57, 60, 65, 71, 104, 121, 151, 159, 183, 197, 202, 212, 224, 761, 298, 301, 304, 307, 310, 313, 319, 323, 327, 331, 338, 849, 852, 855, 861, 865, 342, 346, 350, 869, 873, 355, 359, 877, 364, 881, 368, 885, 889, 372, 893, 377, 381, 898, 385, 902, 389, 393, 397, 401, 468, 404, 413, 417, 421, 427, 431, 435, 438, 441, 446, 449, 452, 455, 459, 472, 476, 479, 482, 490, 906, 910, 914, 918, 922, 926, 930, 934, 497, 501, 505, 509, 513, 518, 522, 525, 529, 532, 539, 543, 547, 551, 554, 557, 561, 565, 571, 575, 580, 585, 588, 592, 597, 600, 604, 990, 981, 941, 994, 998, 944, 948, 1002, 1007, 1011, 1014, 1018, 608, 1022, 612, 616, 1026, 621, 1031, 625, 1035, 1039, 629, 633, 636, 639, 1043, 647, 651, 1048, 1052, 656, 660, 1057, 666, 670, 1061, 674, 678, 681, 684, 688, 691, 1065, 1069, 1072, 695, 938, 700, 703, 956, 959, 708, 711, 964, 967, 970, 715, 974, 720, 723, 727, 978, 732, 986, 736, 740, 1076, 744, 749, 1080] (by decide +kernel) (by decide +kernel) w h).1
theorem inX0 : ∀ w ∈ wsX00, w ∈ lw_tbl := by decide +kernel
theorem inlX1 : ∀ w ∈ wsX10, w ∈ wsL_law := fun _ h => List.mem_append_left _ (List.mem_append_left _ (List.mem_append_left _ (List.mem_append_right _ h)))
theorem inX1 : ∀ w ∈ wsX10, w ∈ lw_tbl := fun w h => wsL_law_in w (inlX1 w h)
theorem inlX2 : ∀ w ∈ wsX20, w ∈ wsL_law := fun _ h => List.mem_append_left _ (List.mem_append_left _ (List.mem_append_left _ (List.mem_append_left _ (List.mem_append_left _ (List.mem_append_left _ (List.mem_append_left _ (List.mem_append_left _ (List.mem_append_left _ (List.mem_append_right _ h)))))))))
theorem inX2 : ∀ w ∈ wsX20, w ∈ lw_tbl := fun w h => wsL_law_in w (inlX2 w h)
theorem inlX3 : ∀ w ∈ wsX30, w ∈ wsL_law := fun _ h => List.mem_append_left _ (List.mem_append_left _ (List.mem_append_left _ (List.mem_append_left _ (List.mem_append_left _ (List.mem_append_right _ h)))))
theorem inX3 : ∀ w ∈ wsX30, w ∈ lw_tbl := fun w h => wsL_law_in w (inlX3 w h)
theorem inlX4 : ∀ w ∈ wsX40, w ∈ wsL_law := fun _ h => List.mem_append_left _ (List.mem_append_left _ (List.mem_append_left _ (List.mem_append_left _ (List.mem_append_left _ (List.mem_append_left _ (List.mem_append_right _ h))))))
theorem inX4 : ∀ w ∈ wsX40, w ∈ lw_tbl := fun w h => wsL_law_in w (inlX4 w h)
theorem inlX5 : ∀ w ∈ wsX50, w ∈ wsL_law := fun _ h => List.mem_append_left _ (List.mem_append_left _ (List.mem_append_right _ h))
theorem inX5 : ∀ w ∈ wsX50, w ∈ lw_tbl := fun w h => wsL_law_in w (inlX5 w h)
theorem inlX6 : ∀ w ∈ wsX60, w ∈ wsL_law := fun _ h => List.mem_append_left _ (List.mem_append_left _ (List.mem_append_left _ (List.mem_append_left _ (List.mem_append_right _ h))))
theorem inX6 : ∀ w ∈ wsX60, w ∈ lw_tbl := fun w h => wsL_law_in w (inlX6 w h)
theorem inlX7 : ∀ w ∈ wsX70, w ∈ wsL_law := fun _ h => List.mem_append_left _ (List.mem_append_right _ h)
theorem inX7 : ∀ w ∈ wsX70, w ∈ lw_tbl := fun w h => wsL_law_in w (inlX7 w h)
theorem inlX8 : ∀ w ∈ wsX80, w ∈ wsL_law := fun _ h => List.mem_append_left _ (List.mem_append_left _ (List.mem_append_left _ (List.mem_append_left _ (List.mem_append_left _ (List.mem_append_left _ (List.mem_append_left _ (List.mem_append_right _ h)))))))
theorem inX8 : ∀ w ∈ wsX80, w ∈ lw_tbl := fun w h => wsL_law_in w (inlX8 w h)
theorem inlX9 : ∀ w ∈ wsX90, w ∈ wsL_law := fun _ h => List.mem_append_left _ (List.mem_append_left _ (List.mem_append_left _ (List.mem_append_left _ (List.mem_append_left _ (List.mem_append_left _ (List.mem_append_left _ (List.mem_append_left _ (List.mem_append_right _ h))))))))
theorem inX9 : ∀ w ∈ wsX90, w ∈ lw_tbl := fun w h => wsL_law_in w (inlX9 w h)
theorem inlX10 : ∀ w ∈ wsX100, w ∈ wsL_law := fun _ h => List.mem_append_left _ (List.mem_append_left _ (List.mem_append_left _ (List.mem_append_left _ (List.mem_append_left _ (List.mem_append_left _ (List.mem_append_left _ (List.mem_append_left _ (List.mem_append_left _ (List.mem_append_left _ (List.mem_append_right _ h))))))))))
theorem inX10 : ∀ w ∈ wsX100, w ∈ lw_tbl := fun w h => wsL_law_in w (inlX10 w h)
theorem inlX11 : ∀ w ∈ wsX110, w ∈ wsL_law := fun _ h => List.mem_append_left _ (List.mem_append_left _ (List.mem_append_left _ (List.mem_append_left _ (List.mem_append_left _ (List.mem_append_left _ (List.mem_append_left _ (List.mem_append_left _ (List.mem_append_left _ (List.mem_append_left _ (List.mem_append_left _ (List.mem_append_left _ (List.mem_append_right _ h))))))))))))
theorem inX11 : ∀ w ∈ wsX110, w ∈ lw_tbl := fun w h => wsL_law_in w (inlX11 w h)
theorem inlX12 : ∀ w ∈ wsX120, w ∈ wsL_law := fun _ h => List.mem_append_left _ (List.mem_append_left _ (List.mem_append_left _ (List.mem_append_left _ (List.mem_append_left _ (List.mem_append_left _ (List.mem_append_left _ (List.mem_append_left _ (List.mem_append_left _ (List.mem_append_left _ (List.mem_append_left _ (List.mem_append_right _ h)))))))))))
theorem inX12 : ∀ w ∈ wsX120, w ∈ lw_tbl := fun w h => wsL_law_in w (inlX12 w h)
theorem inJ13 : ∀ w ∈ wsJ130, w ∈ lw_tbl := by decide +kernel
theorem inJ9 : ∀ w ∈ wsJ90, w ∈ lw_tbl := by decide +kernel
theorem inJ0 : ∀ w ∈ wsJ00, w ∈ lw_tbl := by decide +kernel
theorem inJ1 : ∀ w ∈ wsJ10, w ∈ lw_tbl := by decide +kernel
theorem inJ2 : ∀ w ∈ wsJ20, w ∈ lw_tbl := by decide +kernel
theorem inJ10 : ∀ w ∈ wsJ100, w ∈ lw_tbl := by decide +kernel
theorem inJ3 : ∀ w ∈ wsJ30, w ∈ lw_tbl := by decide +kernel
theorem dX0_isPlace_0 : decode cX0_isPlace 0 = .ok (.iload_n 0, 1) := by decide +kernel
theorem dX0_isPlace_1 : decode cX0_isPlace 1 = .ok (.ifCond .lt 14, 3) := by decide +kernel
theorem dX0_isPlace_4 : decode cX0_isPlace 4 = .ok (.iload_n 0, 1) := by decide +kernel
theorem dX0_isPlace_5 : decode cX0_isPlace 5 = .ok (.sipush 27720, 3) := by decide +kernel
theorem dX0_isPlace_8 : decode cX0_isPlace 8 = .ok (.if_icmp .ge 7, 3) := by decide +kernel
theorem dX0_isPlace_11 : decode cX0_isPlace 11 = .ok (.iconst 1, 1) := by decide +kernel
theorem dX0_isPlace_12 : decode cX0_isPlace 12 = .ok (.goto 4, 3) := by decide +kernel
theorem dX0_isPlace_15 : decode cX0_isPlace 15 = .ok (.iconst 0, 1) := by decide +kernel
theorem dX0_isPlace_16 : decode cX0_isPlace 16 = .ok (.ireturn, 1) := by decide +kernel
theorem dX0_isStep_0 : decode cX0_isStep 0 = .ok (.iload_n 0, 1) := by decide +kernel
theorem dX0_isStep_1 : decode cX0_isStep 1 = .ok (.ifCond .eq 21, 3) := by decide +kernel
theorem dX0_isStep_4 : decode cX0_isStep 4 = .ok (.iload_n 0, 1) := by decide +kernel
theorem dX0_isStep_5 : decode cX0_isStep 5 = .ok (.sipush (-13859), 3) := by decide +kernel
theorem dX0_isStep_8 : decode cX0_isStep 8 = .ok (.if_icmp .lt 14, 3) := by decide +kernel
theorem dX0_isStep_11 : decode cX0_isStep 11 = .ok (.iload_n 0, 1) := by decide +kernel
theorem dX0_isStep_12 : decode cX0_isStep 12 = .ok (.sipush 13859, 3) := by decide +kernel
theorem dX0_isStep_15 : decode cX0_isStep 15 = .ok (.if_icmp .gt 7, 3) := by decide +kernel
theorem dX0_isStep_18 : decode cX0_isStep 18 = .ok (.iconst 1, 1) := by decide +kernel
theorem dX0_isStep_19 : decode cX0_isStep 19 = .ok (.goto 4, 3) := by decide +kernel
theorem dX0_isStep_22 : decode cX0_isStep 22 = .ok (.iconst 0, 1) := by decide +kernel
theorem dX0_isStep_23 : decode cX0_isStep 23 = .ok (.ireturn, 1) := by decide +kernel
set_option maxRecDepth 20000 in
theorem ggX0_placeAfter_J9_floorMod_7cf53 : GoodIn wsX0_placeAfter wsJ9_floorMod_7cf53 := goodIn_r _ [4] (by decide +kernel) (by decide +kernel)
set_option maxRecDepth 20000 in
theorem gX0_placeAfter_J9_floorMod_7cf53 : GoodIn wsX0_placeAfter (va_wsS RX0 9 yJ9_floorMod_7cf53 wsJ9_floorMod_7cf53) := goodIn_app (goodIn_of _ (by decide +kernel)) ggX0_placeAfter_J9_floorMod_7cf53
theorem dX0_placeAfter_0 : decode cX0_placeAfter 0 = .ok (.iload_n 0, 1) := by decide +kernel
theorem dX0_placeAfter_1 : decode cX0_placeAfter 1 = .ok (.iload_n 1, 1) := by decide +kernel
theorem dX0_placeAfter_2 : decode cX0_placeAfter 2 = .ok (.iadd, 1) := by decide +kernel
theorem dX0_placeAfter_3 : decode cX0_placeAfter 3 = .ok (.sipush 27720, 3) := by decide +kernel
theorem dX0_placeAfter_6 : decode cX0_placeAfter 6 = .ok (.invokestatic 9, 3) := by decide +kernel
theorem dX0_placeAfter_9 : decode cX0_placeAfter 9 = .ok (.ireturn, 1) := by decide +kernel
theorem dX0_sine_0 : decode cX0_sine 0 = .ok (.iload_n 1, 1) := by decide +kernel
theorem dX0_sine_1 : decode cX0_sine 1 = .ok (.i2l, 1) := by decide +kernel
theorem dX0_sine_2 : decode cX0_sine 2 = .ok (.sipush 27720, 3) := by decide +kernel
theorem dX0_sine_5 : decode cX0_sine 5 = .ok (.iload_n 1, 1) := by decide +kernel
theorem dX0_sine_6 : decode cX0_sine 6 = .ok (.isub, 1) := by decide +kernel
theorem dX0_sine_7 : decode cX0_sine 7 = .ok (.i2l, 1) := by decide +kernel
theorem dX0_sine_8 : decode cX0_sine 8 = .ok (.lmul, 1) := by decide +kernel
theorem dX0_sine_9 : decode cX0_sine 9 = .ok (.lstore_n 2, 1) := by decide +kernel
theorem dX0_sine_10 : decode cX0_sine 10 = .ok (.ldc2_w 15, 3) := by decide +kernel
theorem dX0_sine_13 : decode cX0_sine 13 = .ok (.iload_n 0, 1) := by decide +kernel
theorem dX0_sine_14 : decode cX0_sine 14 = .ok (.i2l, 1) := by decide +kernel
theorem dX0_sine_15 : decode cX0_sine 15 = .ok (.lmul, 1) := by decide +kernel
theorem dX0_sine_16 : decode cX0_sine 16 = .ok (.lload_n 2, 1) := by decide +kernel
theorem dX0_sine_17 : decode cX0_sine 17 = .ok (.lmul, 1) := by decide +kernel
theorem dX0_sine_18 : decode cX0_sine 18 = .ok (.ldc2_w 17, 3) := by decide +kernel
theorem dX0_sine_21 : decode cX0_sine 21 = .ok (.ldc2_w 19, 3) := by decide +kernel
theorem dX0_sine_24 : decode cX0_sine 24 = .ok (.lload_n 2, 1) := by decide +kernel
theorem dX0_sine_25 : decode cX0_sine 25 = .ok (.lmul, 1) := by decide +kernel
theorem dX0_sine_26 : decode cX0_sine 26 = .ok (.lsub, 1) := by decide +kernel
theorem dX0_sine_27 : decode cX0_sine 27 = .ok (.ldiv, 1) := by decide +kernel
theorem dX0_sine_28 : decode cX0_sine 28 = .ok (.l2i, 1) := by decide +kernel
theorem dX0_sine_29 : decode cX0_sine 29 = .ok (.ireturn, 1) := by decide +kernel
set_option maxRecDepth 20000 in
theorem ggX0_chordTime_X0_sine : GoodIn wsX0_chordTime wsX0_sine := goodIn_r _ [9, 10, 11, 12] (by decide +kernel) (by decide +kernel)
set_option maxRecDepth 20000 in
theorem gX0_chordTime_X0_sine : GoodIn wsX0_chordTime (va_wsS RX0 26 yX0_sine wsX0_sine) := goodIn_app (goodIn_of _ (by decide +kernel)) ggX0_chordTime_X0_sine
theorem dX0_chordTime_0 : decode cX0_chordTime 0 = .ok (.ldc 21, 2) := by decide +kernel
theorem dX0_chordTime_2 : decode cX0_chordTime 2 = .ok (.iload_n 0, 1) := by decide +kernel
theorem dX0_chordTime_3 : decode cX0_chordTime 3 = .ok (.invokestatic 22, 3) := by decide +kernel
theorem dX0_chordTime_6 : decode cX0_chordTime 6 = .ok (.invokestatic 26, 3) := by decide +kernel
theorem dX0_chordTime_9 : decode cX0_chordTime 9 = .ok (.ireturn, 1) := by decide +kernel
set_option maxRecDepth 20000 in
theorem ggX0_causticRadius_X0_sine : GoodIn wsX0_causticRadius wsX0_sine := goodIn_r _ [9, 10, 11, 12] (by decide +kernel) (by decide +kernel)
set_option maxRecDepth 20000 in
theorem gX0_causticRadius_X0_sine : GoodIn wsX0_causticRadius (va_wsS RX0 26 yX0_sine wsX0_sine) := goodIn_app (goodIn_of _ (by decide +kernel)) ggX0_causticRadius_X0_sine
theorem dX0_causticRadius_0 : decode cX0_causticRadius 0 = .ok (.ldc 31, 2) := by decide +kernel
theorem dX0_causticRadius_2 : decode cX0_causticRadius 2 = .ok (.sipush 13860, 3) := by decide +kernel
theorem dX0_causticRadius_5 : decode cX0_causticRadius 5 = .ok (.iload_n 0, 1) := by decide +kernel
theorem dX0_causticRadius_6 : decode cX0_causticRadius 6 = .ok (.invokestatic 22, 3) := by decide +kernel
theorem dX0_causticRadius_9 : decode cX0_causticRadius 9 = .ok (.isub, 1) := by decide +kernel
theorem dX0_causticRadius_10 : decode cX0_causticRadius 10 = .ok (.invokestatic 26, 3) := by decide +kernel
theorem dX0_causticRadius_13 : decode cX0_causticRadius 13 = .ok (.ireturn, 1) := by decide +kernel
theorem dX0_sharedDivisor_0 : decode cX0_sharedDivisor 0 = .ok (.sipush 27720, 3) := by decide +kernel
theorem dX0_sharedDivisor_3 : decode cX0_sharedDivisor 3 = .ok (.istore_n 1, 1) := by decide +kernel
theorem dX0_sharedDivisor_4 : decode cX0_sharedDivisor 4 = .ok (.iload_n 0, 1) := by decide +kernel
theorem dX0_sharedDivisor_5 : decode cX0_sharedDivisor 5 = .ok (.invokestatic 22, 3) := by decide +kernel
theorem dX0_sharedDivisor_8 : decode cX0_sharedDivisor 8 = .ok (.istore_n 2, 1) := by decide +kernel
theorem dX0_sharedDivisor_9 : decode cX0_sharedDivisor 9 = .ok (.iconst 0, 1) := by decide +kernel
theorem dX0_sharedDivisor_10 : decode cX0_sharedDivisor 10 = .ok (.istore_n 3, 1) := by decide +kernel
theorem dX0_sharedDivisor_11 : decode cX0_sharedDivisor 11 = .ok (.iload_n 3, 1) := by decide +kernel
theorem dX0_sharedDivisor_12 : decode cX0_sharedDivisor 12 = .ok (.bipush 100, 2) := by decide +kernel
theorem dX0_sharedDivisor_14 : decode cX0_sharedDivisor 14 = .ok (.if_icmp .ge 23, 3) := by decide +kernel
theorem dX0_sharedDivisor_17 : decode cX0_sharedDivisor 17 = .ok (.iload_n 2, 1) := by decide +kernel
theorem dX0_sharedDivisor_18 : decode cX0_sharedDivisor 18 = .ok (.ifCond .eq 19, 3) := by decide +kernel
theorem dX0_sharedDivisor_21 : decode cX0_sharedDivisor 21 = .ok (.iload_n 1, 1) := by decide +kernel
theorem dX0_sharedDivisor_22 : decode cX0_sharedDivisor 22 = .ok (.iload_n 2, 1) := by decide +kernel
theorem dX0_sharedDivisor_23 : decode cX0_sharedDivisor 23 = .ok (.irem, 1) := by decide +kernel
theorem dX0_sharedDivisor_24 : decode cX0_sharedDivisor 24 = .ok (.istore 4, 2) := by decide +kernel
theorem dX0_sharedDivisor_26 : decode cX0_sharedDivisor 26 = .ok (.iload_n 2, 1) := by decide +kernel
theorem dX0_sharedDivisor_27 : decode cX0_sharedDivisor 27 = .ok (.istore_n 1, 1) := by decide +kernel
theorem dX0_sharedDivisor_28 : decode cX0_sharedDivisor 28 = .ok (.iload 4, 2) := by decide +kernel
theorem dX0_sharedDivisor_30 : decode cX0_sharedDivisor 30 = .ok (.istore_n 2, 1) := by decide +kernel
theorem dX0_sharedDivisor_31 : decode cX0_sharedDivisor 31 = .ok (.iinc 3 1, 3) := by decide +kernel
theorem dX0_sharedDivisor_34 : decode cX0_sharedDivisor 34 = .ok (.goto (-23), 3) := by decide +kernel
theorem dX0_sharedDivisor_37 : decode cX0_sharedDivisor 37 = .ok (.iload_n 1, 1) := by decide +kernel
theorem dX0_sharedDivisor_38 : decode cX0_sharedDivisor 38 = .ok (.ireturn, 1) := by decide +kernel
theorem dX0_tilted_0 : decode cX0_tilted 0 = .ok (.iload_n 0, 1) := by decide +kernel
theorem dX0_tilted_1 : decode cX0_tilted 1 = .ok (.invokestatic 22, 3) := by decide +kernel
theorem dX0_tilted_4 : decode cX0_tilted 4 = .ok (.iload_n 1, 1) := by decide +kernel
theorem dX0_tilted_5 : decode cX0_tilted 5 = .ok (.iadd, 1) := by decide +kernel
theorem dX0_tilted_6 : decode cX0_tilted 6 = .ok (.istore_n 2, 1) := by decide +kernel
theorem dX0_tilted_7 : decode cX0_tilted 7 = .ok (.iload_n 2, 1) := by decide +kernel
theorem dX0_tilted_8 : decode cX0_tilted 8 = .ok (.iconst 1, 1) := by decide +kernel
theorem dX0_tilted_9 : decode cX0_tilted 9 = .ok (.if_icmp .lt 10, 3) := by decide +kernel
theorem dX0_tilted_12 : decode cX0_tilted 12 = .ok (.iload_n 2, 1) := by decide +kernel
theorem dX0_tilted_13 : decode cX0_tilted 13 = .ok (.sipush 13859, 3) := by decide +kernel
theorem dX0_tilted_16 : decode cX0_tilted 16 = .ok (.if_icmp .le 5, 3) := by decide +kernel
theorem dX0_tilted_19 : decode cX0_tilted 19 = .ok (.iconst 0, 1) := by decide +kernel
theorem dX0_tilted_20 : decode cX0_tilted 20 = .ok (.ireturn, 1) := by decide +kernel
theorem dX0_tilted_21 : decode cX0_tilted 21 = .ok (.iload_n 0, 1) := by decide +kernel
theorem dX0_tilted_22 : decode cX0_tilted 22 = .ok (.ifCond .le 7, 3) := by decide +kernel
theorem dX0_tilted_25 : decode cX0_tilted 25 = .ok (.iload_n 2, 1) := by decide +kernel
theorem dX0_tilted_26 : decode cX0_tilted 26 = .ok (.goto 5, 3) := by decide +kernel
theorem dX0_tilted_29 : decode cX0_tilted 29 = .ok (.iload_n 2, 1) := by decide +kernel
theorem dX0_tilted_30 : decode cX0_tilted 30 = .ok (.ineg, 1) := by decide +kernel
theorem dX0_tilted_31 : decode cX0_tilted 31 = .ok (.ireturn, 1) := by decide +kernel
set_option maxRecDepth 20000 in
theorem ggX0_smallestStep_X0_isStep : GoodIn wsX0_smallestStep wsX0_isStep := goodIn_r _ [4] (by decide +kernel) (by decide +kernel)
set_option maxRecDepth 20000 in
theorem gX0_smallestStep_X0_isStep : GoodIn wsX0_smallestStep (va_wsS RX0 32 yX0_isStep wsX0_isStep) := goodIn_app (goodIn_of _ (by decide +kernel)) ggX0_smallestStep_X0_isStep
set_option maxRecDepth 20000 in
theorem ggX0_smallestStep_X0_isBetter : GoodIn wsX0_smallestStep wsX0_isBetter := goodIn_r _ [7, 8, 9, 10, 11] (by decide +kernel) (by decide +kernel)
set_option maxRecDepth 20000 in
theorem gX0_smallestStep_X0_isBetter : GoodIn wsX0_smallestStep (va_wsS RX0 36 yX0_isBetter wsX0_isBetter) := goodIn_app (goodIn_of _ (by decide +kernel)) ggX0_smallestStep_X0_isBetter
theorem dX0_smallestStep_0 : decode cX0_smallestStep 0 = .ok (.iload_n 1, 1) := by decide +kernel
theorem dX0_smallestStep_1 : decode cX0_smallestStep 1 = .ok (.iconst 1, 1) := by decide +kernel
theorem dX0_smallestStep_2 : decode cX0_smallestStep 2 = .ok (.if_icmp .ge 5, 3) := by decide +kernel
theorem dX0_smallestStep_5 : decode cX0_smallestStep 5 = .ok (.iconst 0, 1) := by decide +kernel
theorem dX0_smallestStep_6 : decode cX0_smallestStep 6 = .ok (.ireturn, 1) := by decide +kernel
theorem dX0_smallestStep_7 : decode cX0_smallestStep 7 = .ok (.iconst 0, 1) := by decide +kernel
theorem dX0_smallestStep_8 : decode cX0_smallestStep 8 = .ok (.istore_n 2, 1) := by decide +kernel
theorem dX0_smallestStep_9 : decode cX0_smallestStep 9 = .ok (.iload_n 1, 1) := by decide +kernel
theorem dX0_smallestStep_10 : decode cX0_smallestStep 10 = .ok (.ineg, 1) := by decide +kernel
theorem dX0_smallestStep_11 : decode cX0_smallestStep 11 = .ok (.istore_n 3, 1) := by decide +kernel
theorem dX0_smallestStep_12 : decode cX0_smallestStep 12 = .ok (.iload_n 3, 1) := by decide +kernel
theorem dX0_smallestStep_13 : decode cX0_smallestStep 13 = .ok (.iload_n 1, 1) := by decide +kernel
theorem dX0_smallestStep_14 : decode cX0_smallestStep 14 = .ok (.if_icmp .gt 51, 3) := by decide +kernel
theorem dX0_smallestStep_17 : decode cX0_smallestStep 17 = .ok (.iload_n 0, 1) := by decide +kernel
theorem dX0_smallestStep_18 : decode cX0_smallestStep 18 = .ok (.iload_n 3, 1) := by decide +kernel
theorem dX0_smallestStep_19 : decode cX0_smallestStep 19 = .ok (.sipush 27720, 3) := by decide +kernel
theorem dX0_smallestStep_22 : decode cX0_smallestStep 22 = .ok (.imul, 1) := by decide +kernel
theorem dX0_smallestStep_23 : decode cX0_smallestStep 23 = .ok (.iadd, 1) := by decide +kernel
theorem dX0_smallestStep_24 : decode cX0_smallestStep 24 = .ok (.istore 4, 2) := by decide +kernel
theorem dX0_smallestStep_26 : decode cX0_smallestStep 26 = .ok (.iload 4, 2) := by decide +kernel
theorem dX0_smallestStep_28 : decode cX0_smallestStep 28 = .ok (.iload_n 1, 1) := by decide +kernel
theorem dX0_smallestStep_29 : decode cX0_smallestStep 29 = .ok (.irem, 1) := by decide +kernel
theorem dX0_smallestStep_30 : decode cX0_smallestStep 30 = .ok (.ifCond .ne 29, 3) := by decide +kernel
theorem dX0_smallestStep_33 : decode cX0_smallestStep 33 = .ok (.iload 4, 2) := by decide +kernel
theorem dX0_smallestStep_35 : decode cX0_smallestStep 35 = .ok (.iload_n 1, 1) := by decide +kernel
theorem dX0_smallestStep_36 : decode cX0_smallestStep 36 = .ok (.idiv, 1) := by decide +kernel
theorem dX0_smallestStep_37 : decode cX0_smallestStep 37 = .ok (.invokestatic 32, 3) := by decide +kernel
theorem dX0_smallestStep_40 : decode cX0_smallestStep 40 = .ok (.ifCond .eq 19, 3) := by decide +kernel
theorem dX0_smallestStep_43 : decode cX0_smallestStep 43 = .ok (.iload 4, 2) := by decide +kernel
theorem dX0_smallestStep_45 : decode cX0_smallestStep 45 = .ok (.iload_n 1, 1) := by decide +kernel
theorem dX0_smallestStep_46 : decode cX0_smallestStep 46 = .ok (.idiv, 1) := by decide +kernel
theorem dX0_smallestStep_47 : decode cX0_smallestStep 47 = .ok (.iload_n 2, 1) := by decide +kernel
theorem dX0_smallestStep_48 : decode cX0_smallestStep 48 = .ok (.invokestatic 36, 3) := by decide +kernel
theorem dX0_smallestStep_51 : decode cX0_smallestStep 51 = .ok (.ifCond .eq 8, 3) := by decide +kernel
theorem dX0_smallestStep_54 : decode cX0_smallestStep 54 = .ok (.iload 4, 2) := by decide +kernel
theorem dX0_smallestStep_56 : decode cX0_smallestStep 56 = .ok (.iload_n 1, 1) := by decide +kernel
theorem dX0_smallestStep_57 : decode cX0_smallestStep 57 = .ok (.idiv, 1) := by decide +kernel
theorem dX0_smallestStep_58 : decode cX0_smallestStep 58 = .ok (.istore_n 2, 1) := by decide +kernel
theorem dX0_smallestStep_59 : decode cX0_smallestStep 59 = .ok (.iinc 3 1, 3) := by decide +kernel
theorem dX0_smallestStep_62 : decode cX0_smallestStep 62 = .ok (.goto (-50), 3) := by decide +kernel
theorem dX0_smallestStep_65 : decode cX0_smallestStep 65 = .ok (.iload_n 2, 1) := by decide +kernel
theorem dX0_smallestStep_66 : decode cX0_smallestStep 66 = .ok (.ireturn, 1) := by decide +kernel
theorem dX0_isBetter_0 : decode cX0_isBetter 0 = .ok (.iload_n 0, 1) := by decide +kernel
theorem dX0_isBetter_1 : decode cX0_isBetter 1 = .ok (.invokestatic 22, 3) := by decide +kernel
theorem dX0_isBetter_4 : decode cX0_isBetter 4 = .ok (.istore_n 2, 1) := by decide +kernel
theorem dX0_isBetter_5 : decode cX0_isBetter 5 = .ok (.iload_n 1, 1) := by decide +kernel
theorem dX0_isBetter_6 : decode cX0_isBetter 6 = .ok (.invokestatic 22, 3) := by decide +kernel
theorem dX0_isBetter_9 : decode cX0_isBetter 9 = .ok (.istore_n 3, 1) := by decide +kernel
theorem dX0_isBetter_10 : decode cX0_isBetter 10 = .ok (.iload_n 1, 1) := by decide +kernel
theorem dX0_isBetter_11 : decode cX0_isBetter 11 = .ok (.ifCond .eq 17, 3) := by decide +kernel
theorem dX0_isBetter_14 : decode cX0_isBetter 14 = .ok (.iload_n 2, 1) := by decide +kernel
theorem dX0_isBetter_15 : decode cX0_isBetter 15 = .ok (.iload_n 3, 1) := by decide +kernel
theorem dX0_isBetter_16 : decode cX0_isBetter 16 = .ok (.if_icmp .lt 12, 3) := by decide +kernel
theorem dX0_isBetter_19 : decode cX0_isBetter 19 = .ok (.iload_n 2, 1) := by decide +kernel
theorem dX0_isBetter_20 : decode cX0_isBetter 20 = .ok (.iload_n 3, 1) := by decide +kernel
theorem dX0_isBetter_21 : decode cX0_isBetter 21 = .ok (.if_icmp .ne 11, 3) := by decide +kernel
theorem dX0_isBetter_24 : decode cX0_isBetter 24 = .ok (.iload_n 0, 1) := by decide +kernel
theorem dX0_isBetter_25 : decode cX0_isBetter 25 = .ok (.ifCond .le 7, 3) := by decide +kernel
theorem dX0_isBetter_28 : decode cX0_isBetter 28 = .ok (.iconst 1, 1) := by decide +kernel
theorem dX0_isBetter_29 : decode cX0_isBetter 29 = .ok (.goto 4, 3) := by decide +kernel
theorem dX0_isBetter_32 : decode cX0_isBetter 32 = .ok (.iconst 0, 1) := by decide +kernel
theorem dX0_isBetter_33 : decode cX0_isBetter 33 = .ok (.ireturn, 1) := by decide +kernel
set_option maxRecDepth 20000 in
theorem ggX1_init_X1_forget : GoodIn wsX1_init wsX1_forget := goodIn_r _ [10, 5, 11, 12] (by decide +kernel) (by decide +kernel)
set_option maxRecDepth 20000 in
theorem gX1_init_X1_forget : GoodIn wsX1_init (wsV RX1 15 RX1 yX1_forget wsX1_forget) := goodIn_app (goodIn_of _ (by decide +kernel)) ggX1_init_X1_forget
theorem dX1_init_0 : decode cX1_init 0 = .ok (.aload_n 0, 1) := by decide +kernel
theorem dX1_init_1 : decode cX1_init 1 = .ok (.invokespecial 3, 3) := by decide +kernel
theorem dX1_init_4 : decode cX1_init 4 = .ok (.aload_n 0, 1) := by decide +kernel
theorem dX1_init_5 : decode cX1_init 5 = .ok (.bipush 48, 2) := by decide +kernel
theorem dX1_init_7 : decode cX1_init 7 = .ok (.newarray .long, 2) := by decide +kernel
theorem dX1_init_9 : decode cX1_init 9 = .ok (.putfield 9, 3) := by decide +kernel
theorem dX1_init_12 : decode cX1_init 12 = .ok (.aload_n 0, 1) := by decide +kernel
theorem dX1_init_13 : decode cX1_init 13 = .ok (.invokevirtual 15, 3) := by decide +kernel
theorem dX1_init_16 : decode cX1_init 16 = .ok (.return_, 1) := by decide +kernel
theorem dX1_forget_0 : decode cX1_forget 0 = .ok (.iconst 0, 1) := by decide +kernel
theorem dX1_forget_1 : decode cX1_forget 1 = .ok (.istore_n 1, 1) := by decide +kernel
theorem dX1_forget_2 : decode cX1_forget 2 = .ok (.iload_n 1, 1) := by decide +kernel
theorem dX1_forget_3 : decode cX1_forget 3 = .ok (.bipush 12, 2) := by decide +kernel
theorem dX1_forget_5 : decode cX1_forget 5 = .ok (.if_icmp .ge 49, 3) := by decide +kernel
theorem dX1_forget_8 : decode cX1_forget 8 = .ok (.iload_n 1, 1) := by decide +kernel
theorem dX1_forget_9 : decode cX1_forget 9 = .ok (.iconst 4, 1) := by decide +kernel
theorem dX1_forget_10 : decode cX1_forget 10 = .ok (.imul, 1) := by decide +kernel
theorem dX1_forget_11 : decode cX1_forget 11 = .ok (.istore_n 2, 1) := by decide +kernel
theorem dX1_forget_12 : decode cX1_forget 12 = .ok (.aload_n 0, 1) := by decide +kernel
theorem dX1_forget_13 : decode cX1_forget 13 = .ok (.getfield 9, 3) := by decide +kernel
theorem dX1_forget_16 : decode cX1_forget 16 = .ok (.iload_n 2, 1) := by decide +kernel
theorem dX1_forget_17 : decode cX1_forget 17 = .ok (.lconst 0, 1) := by decide +kernel
theorem dX1_forget_18 : decode cX1_forget 18 = .ok (.lastore, 1) := by decide +kernel
theorem dX1_forget_19 : decode cX1_forget 19 = .ok (.aload_n 0, 1) := by decide +kernel
theorem dX1_forget_20 : decode cX1_forget 20 = .ok (.getfield 9, 3) := by decide +kernel
theorem dX1_forget_23 : decode cX1_forget 23 = .ok (.iload_n 2, 1) := by decide +kernel
theorem dX1_forget_24 : decode cX1_forget 24 = .ok (.iconst 1, 1) := by decide +kernel
theorem dX1_forget_25 : decode cX1_forget 25 = .ok (.iadd, 1) := by decide +kernel
theorem dX1_forget_26 : decode cX1_forget 26 = .ok (.lconst 0, 1) := by decide +kernel
theorem dX1_forget_27 : decode cX1_forget 27 = .ok (.lastore, 1) := by decide +kernel
theorem dX1_forget_28 : decode cX1_forget 28 = .ok (.aload_n 0, 1) := by decide +kernel
theorem dX1_forget_29 : decode cX1_forget 29 = .ok (.getfield 9, 3) := by decide +kernel
theorem dX1_forget_32 : decode cX1_forget 32 = .ok (.iload_n 2, 1) := by decide +kernel
theorem dX1_forget_33 : decode cX1_forget 33 = .ok (.iconst 2, 1) := by decide +kernel
theorem dX1_forget_34 : decode cX1_forget 34 = .ok (.iadd, 1) := by decide +kernel
theorem dX1_forget_35 : decode cX1_forget 35 = .ok (.ldc2_w 18, 3) := by decide +kernel
theorem dX1_forget_38 : decode cX1_forget 38 = .ok (.lastore, 1) := by decide +kernel
theorem dX1_forget_39 : decode cX1_forget 39 = .ok (.aload_n 0, 1) := by decide +kernel
theorem dX1_forget_40 : decode cX1_forget 40 = .ok (.getfield 9, 3) := by decide +kernel
theorem dX1_forget_43 : decode cX1_forget 43 = .ok (.iload_n 2, 1) := by decide +kernel
theorem dX1_forget_44 : decode cX1_forget 44 = .ok (.iconst 3, 1) := by decide +kernel
theorem dX1_forget_45 : decode cX1_forget 45 = .ok (.iadd, 1) := by decide +kernel
theorem dX1_forget_46 : decode cX1_forget 46 = .ok (.lconst 0, 1) := by decide +kernel
theorem dX1_forget_47 : decode cX1_forget 47 = .ok (.lastore, 1) := by decide +kernel
theorem dX1_forget_48 : decode cX1_forget 48 = .ok (.iinc 1 1, 3) := by decide +kernel
theorem dX1_forget_51 : decode cX1_forget 51 = .ok (.goto (-49), 3) := by decide +kernel
theorem dX1_forget_54 : decode cX1_forget 54 = .ok (.return_, 1) := by decide +kernel
theorem dX1_hear_0 : decode cX1_hear 0 = .ok (.iload_n 1, 1) := by decide +kernel
theorem dX1_hear_1 : decode cX1_hear 1 = .ok (.ifCond .lt 9, 3) := by decide +kernel
theorem dX1_hear_4 : decode cX1_hear 4 = .ok (.iload_n 1, 1) := by decide +kernel
theorem dX1_hear_5 : decode cX1_hear 5 = .ok (.bipush 12, 2) := by decide +kernel
theorem dX1_hear_7 : decode cX1_hear 7 = .ok (.if_icmp .lt 4, 3) := by decide +kernel
theorem dX1_hear_10 : decode cX1_hear 10 = .ok (.return_, 1) := by decide +kernel
theorem dX1_hear_11 : decode cX1_hear 11 = .ok (.iload_n 1, 1) := by decide +kernel
theorem dX1_hear_12 : decode cX1_hear 12 = .ok (.iconst 4, 1) := by decide +kernel
theorem dX1_hear_13 : decode cX1_hear 13 = .ok (.imul, 1) := by decide +kernel
theorem dX1_hear_14 : decode cX1_hear 14 = .ok (.istore_n 3, 1) := by decide +kernel
theorem dX1_hear_15 : decode cX1_hear 15 = .ok (.aload_n 0, 1) := by decide +kernel
theorem dX1_hear_16 : decode cX1_hear 16 = .ok (.getfield 9, 3) := by decide +kernel
theorem dX1_hear_19 : decode cX1_hear 19 = .ok (.iload_n 3, 1) := by decide +kernel
theorem dX1_hear_20 : decode cX1_hear 20 = .ok (.laload, 1) := by decide +kernel
theorem dX1_hear_21 : decode cX1_hear 21 = .ok (.lconst 0, 1) := by decide +kernel
theorem dX1_hear_22 : decode cX1_hear 22 = .ok (.lcmp, 1) := by decide +kernel
theorem dX1_hear_23 : decode cX1_hear 23 = .ok (.ifCond .ne 15, 3) := by decide +kernel
theorem dX1_hear_26 : decode cX1_hear 26 = .ok (.aload_n 0, 1) := by decide +kernel
theorem dX1_hear_27 : decode cX1_hear 27 = .ok (.getfield 9, 3) := by decide +kernel
theorem dX1_hear_30 : decode cX1_hear 30 = .ok (.iload_n 3, 1) := by decide +kernel
theorem dX1_hear_31 : decode cX1_hear 31 = .ok (.iconst 2, 1) := by decide +kernel
theorem dX1_hear_32 : decode cX1_hear 32 = .ok (.iadd, 1) := by decide +kernel
theorem dX1_hear_33 : decode cX1_hear 33 = .ok (.aload_n 2, 1) := by decide +kernel
theorem dX1_hear_34 : decode cX1_hear 34 = .ok (.getfield 20, 3) := by decide +kernel
theorem dX1_hear_37 : decode cX1_hear 37 = .ok (.lastore, 1) := by decide +kernel
theorem dX1_hear_38 : decode cX1_hear 38 = .ok (.aload_n 0, 1) := by decide +kernel
theorem dX1_hear_39 : decode cX1_hear 39 = .ok (.getfield 9, 3) := by decide +kernel
theorem dX1_hear_42 : decode cX1_hear 42 = .ok (.iload_n 3, 1) := by decide +kernel
theorem dX1_hear_43 : decode cX1_hear 43 = .ok (.dup2, 1) := by decide +kernel
theorem dX1_hear_44 : decode cX1_hear 44 = .ok (.laload, 1) := by decide +kernel
theorem dX1_hear_45 : decode cX1_hear 45 = .ok (.lconst 1, 1) := by decide +kernel
theorem dX1_hear_46 : decode cX1_hear 46 = .ok (.ladd, 1) := by decide +kernel
theorem dX1_hear_47 : decode cX1_hear 47 = .ok (.lastore, 1) := by decide +kernel
theorem dX1_hear_48 : decode cX1_hear 48 = .ok (.aload_n 0, 1) := by decide +kernel
theorem dX1_hear_49 : decode cX1_hear 49 = .ok (.getfield 9, 3) := by decide +kernel
theorem dX1_hear_52 : decode cX1_hear 52 = .ok (.iload_n 3, 1) := by decide +kernel
theorem dX1_hear_53 : decode cX1_hear 53 = .ok (.iconst 1, 1) := by decide +kernel
theorem dX1_hear_54 : decode cX1_hear 54 = .ok (.iadd, 1) := by decide +kernel
theorem dX1_hear_55 : decode cX1_hear 55 = .ok (.dup2, 1) := by decide +kernel
theorem dX1_hear_56 : decode cX1_hear 56 = .ok (.laload, 1) := by decide +kernel
theorem dX1_hear_57 : decode cX1_hear 57 = .ok (.aload_n 2, 1) := by decide +kernel
theorem dX1_hear_58 : decode cX1_hear 58 = .ok (.getfield 26, 3) := by decide +kernel
theorem dX1_hear_61 : decode cX1_hear 61 = .ok (.i2l, 1) := by decide +kernel
theorem dX1_hear_62 : decode cX1_hear 62 = .ok (.ladd, 1) := by decide +kernel
theorem dX1_hear_63 : decode cX1_hear 63 = .ok (.lastore, 1) := by decide +kernel
theorem dX1_hear_64 : decode cX1_hear 64 = .ok (.aload_n 0, 1) := by decide +kernel
theorem dX1_hear_65 : decode cX1_hear 65 = .ok (.getfield 9, 3) := by decide +kernel
theorem dX1_hear_68 : decode cX1_hear 68 = .ok (.iload_n 3, 1) := by decide +kernel
theorem dX1_hear_69 : decode cX1_hear 69 = .ok (.iconst 3, 1) := by decide +kernel
theorem dX1_hear_70 : decode cX1_hear 70 = .ok (.iadd, 1) := by decide +kernel
theorem dX1_hear_71 : decode cX1_hear 71 = .ok (.aload_n 0, 1) := by decide +kernel
theorem dX1_hear_72 : decode cX1_hear 72 = .ok (.getfield 9, 3) := by decide +kernel
theorem dX1_hear_75 : decode cX1_hear 75 = .ok (.iload_n 3, 1) := by decide +kernel
theorem dX1_hear_76 : decode cX1_hear 76 = .ok (.iconst 3, 1) := by decide +kernel
theorem dX1_hear_77 : decode cX1_hear 77 = .ok (.iadd, 1) := by decide +kernel
theorem dX1_hear_78 : decode cX1_hear 78 = .ok (.laload, 1) := by decide +kernel
theorem dX1_hear_79 : decode cX1_hear 79 = .ok (.aload_n 2, 1) := by decide +kernel
theorem dX1_hear_80 : decode cX1_hear 80 = .ok (.getfield 26, 3) := by decide +kernel
theorem dX1_hear_83 : decode cX1_hear 83 = .ok (.i2l, 1) := by decide +kernel
theorem dX1_hear_84 : decode cX1_hear 84 = .ok (.invokestatic 30, 3) := by decide +kernel
theorem dX1_hear_87 : decode cX1_hear 87 = .ok (.lastore, 1) := by decide +kernel
theorem dX1_hear_88 : decode cX1_hear 88 = .ok (.return_, 1) := by decide +kernel
theorem dX1_numberOf_0 : decode cX1_numberOf 0 = .ok (.iload_n 1, 1) := by decide +kernel
theorem dX1_numberOf_1 : decode cX1_numberOf 1 = .ok (.ifCond .lt 18, 3) := by decide +kernel
theorem dX1_numberOf_4 : decode cX1_numberOf 4 = .ok (.iload_n 1, 1) := by decide +kernel
theorem dX1_numberOf_5 : decode cX1_numberOf 5 = .ok (.bipush 12, 2) := by decide +kernel
theorem dX1_numberOf_7 : decode cX1_numberOf 7 = .ok (.if_icmp .ge 12, 3) := by decide +kernel
theorem dX1_numberOf_10 : decode cX1_numberOf 10 = .ok (.iload_n 2, 1) := by decide +kernel
theorem dX1_numberOf_11 : decode cX1_numberOf 11 = .ok (.ifCond .lt 8, 3) := by decide +kernel
theorem dX1_numberOf_14 : decode cX1_numberOf 14 = .ok (.iload_n 2, 1) := by decide +kernel
theorem dX1_numberOf_15 : decode cX1_numberOf 15 = .ok (.iconst 4, 1) := by decide +kernel
theorem dX1_numberOf_16 : decode cX1_numberOf 16 = .ok (.if_icmp .lt 7, 3) := by decide +kernel
theorem dX1_numberOf_19 : decode cX1_numberOf 19 = .ok (.ldc2_w 36, 3) := by decide +kernel
theorem dX1_numberOf_22 : decode cX1_numberOf 22 = .ok (.lreturn, 1) := by decide +kernel
theorem dX1_numberOf_23 : decode cX1_numberOf 23 = .ok (.aload_n 0, 1) := by decide +kernel
theorem dX1_numberOf_24 : decode cX1_numberOf 24 = .ok (.getfield 9, 3) := by decide +kernel
theorem dX1_numberOf_27 : decode cX1_numberOf 27 = .ok (.iload_n 1, 1) := by decide +kernel
theorem dX1_numberOf_28 : decode cX1_numberOf 28 = .ok (.iconst 4, 1) := by decide +kernel
theorem dX1_numberOf_29 : decode cX1_numberOf 29 = .ok (.imul, 1) := by decide +kernel
theorem dX1_numberOf_30 : decode cX1_numberOf 30 = .ok (.iload_n 2, 1) := by decide +kernel
theorem dX1_numberOf_31 : decode cX1_numberOf 31 = .ok (.iadd, 1) := by decide +kernel
theorem dX1_numberOf_32 : decode cX1_numberOf 32 = .ok (.laload, 1) := by decide +kernel
theorem dX1_numberOf_33 : decode cX1_numberOf 33 = .ok (.lreturn, 1) := by decide +kernel
set_option maxRecDepth 20000 in
theorem ggX2_init_X10_init : GoodIn wsX2_init wsX10_init := goodIn_r _ [9, 10, 2, 3, 11, 12, 13, 14, 15, 16, 17, 18, 19, 20, 21, 27, 28, 24, 25, 26] (by decide +kernel) (by decide +kernel)
set_option maxRecDepth 20000 in
theorem gX2_init_X10_init_n17 : GoodIn wsX2_init (wsX10_init) := ggX2_init_X10_init
theorem dX2_init_0 : decode cX2_init 0 = .ok (.aload_n 0, 1) := by decide +kernel
theorem dX2_init_1 : decode cX2_init 1 = .ok (.invokespecial 3, 3) := by decide +kernel
theorem dX2_init_4 : decode cX2_init 4 = .ok (.aload_n 0, 1) := by decide +kernel
theorem dX2_init_5 : decode cX2_init 5 = .ok (.iconst 5, 1) := by decide +kernel
theorem dX2_init_6 : decode cX2_init 6 = .ok (.anewarray 9, 3) := by decide +kernel
theorem dX2_init_9 : decode cX2_init 9 = .ok (.putfield 11, 3) := by decide +kernel
theorem dX2_init_12 : decode cX2_init 12 = .ok (.iconst 0, 1) := by decide +kernel
theorem dX2_init_13 : decode cX2_init 13 = .ok (.istore_n 1, 1) := by decide +kernel
theorem dX2_init_14 : decode cX2_init 14 = .ok (.iload_n 1, 1) := by decide +kernel
theorem dX2_init_15 : decode cX2_init 15 = .ok (.aload_n 0, 1) := by decide +kernel
theorem dX2_init_16 : decode cX2_init 16 = .ok (.getfield 11, 3) := by decide +kernel
theorem dX2_init_19 : decode cX2_init 19 = .ok (.arraylength, 1) := by decide +kernel
theorem dX2_init_20 : decode cX2_init 20 = .ok (.if_icmp .ge 22, 3) := by decide +kernel
theorem dX2_init_23 : decode cX2_init 23 = .ok (.aload_n 0, 1) := by decide +kernel
theorem dX2_init_24 : decode cX2_init 24 = .ok (.getfield 11, 3) := by decide +kernel
theorem dX2_init_27 : decode cX2_init 27 = .ok (.iload_n 1, 1) := by decide +kernel
theorem dX2_init_28 : decode cX2_init 28 = .ok (.new 9, 3) := by decide +kernel
theorem dX2_init_31 : decode cX2_init 31 = .ok (.dup, 1) := by decide +kernel
theorem dX2_init_32 : decode cX2_init 32 = .ok (.invokespecial 17, 3) := by decide +kernel
theorem dX2_init_35 : decode cX2_init 35 = .ok (.aastore, 1) := by decide +kernel
theorem dX2_init_36 : decode cX2_init 36 = .ok (.iinc 1 1, 3) := by decide +kernel
theorem dX2_init_39 : decode cX2_init 39 = .ok (.goto (-25), 3) := by decide +kernel
theorem dX2_init_42 : decode cX2_init 42 = .ok (.return_, 1) := by decide +kernel
set_option maxRecDepth 20000 in
theorem ggX2_keep_X2_dropOldest : GoodIn wsX2_keep wsX2_dropOldest := goodIn_r _ [7, 2, 1, 27, 28] (by decide +kernel) (by decide +kernel)
set_option maxRecDepth 20000 in
theorem gX2_keep_X2_dropOldest : GoodIn wsX2_keep (wsV RX2 22 RX2 yX2_dropOldest wsX2_dropOldest) := goodIn_app (goodIn_of _ (by decide +kernel)) ggX2_keep_X2_dropOldest
set_option maxRecDepth 20000 in
theorem ggX2_keep_X10_copyFrom : GoodIn wsX2_keep wsX10_copyFrom := goodIn_r _ [12, 13, 14, 15, 16, 17, 18, 19, 20, 21, 22, 23, 24, 25, 26, 29, 30, 31, 32, 33] (by decide +kernel) (by decide +kernel)
set_option maxRecDepth 20000 in
theorem gX2_keep_X10_copyFrom : GoodIn wsX2_keep (wsV RX2 25 RX10 yX10_copyFrom wsX10_copyFrom) := goodIn_app (goodIn_of _ (by decide +kernel)) ggX2_keep_X10_copyFrom
theorem dX2_keep_0 : decode cX2_keep 0 = .ok (.aload_n 0, 1) := by decide +kernel
theorem dX2_keep_1 : decode cX2_keep 1 = .ok (.getfield 18, 3) := by decide +kernel
theorem dX2_keep_4 : decode cX2_keep 4 = .ok (.iconst 5, 1) := by decide +kernel
theorem dX2_keep_5 : decode cX2_keep 5 = .ok (.if_icmp .lt 7, 3) := by decide +kernel
theorem dX2_keep_8 : decode cX2_keep 8 = .ok (.aload_n 0, 1) := by decide +kernel
theorem dX2_keep_9 : decode cX2_keep 9 = .ok (.invokevirtual 22, 3) := by decide +kernel
theorem dX2_keep_12 : decode cX2_keep 12 = .ok (.aload_n 0, 1) := by decide +kernel
theorem dX2_keep_13 : decode cX2_keep 13 = .ok (.getfield 11, 3) := by decide +kernel
theorem dX2_keep_16 : decode cX2_keep 16 = .ok (.aload_n 0, 1) := by decide +kernel
theorem dX2_keep_17 : decode cX2_keep 17 = .ok (.getfield 18, 3) := by decide +kernel
theorem dX2_keep_20 : decode cX2_keep 20 = .ok (.aaload, 1) := by decide +kernel
theorem dX2_keep_21 : decode cX2_keep 21 = .ok (.aload_n 1, 1) := by decide +kernel
theorem dX2_keep_22 : decode cX2_keep 22 = .ok (.invokevirtual 25, 3) := by decide +kernel
theorem dX2_keep_25 : decode cX2_keep 25 = .ok (.aload_n 0, 1) := by decide +kernel
theorem dX2_keep_26 : decode cX2_keep 26 = .ok (.dup, 1) := by decide +kernel
theorem dX2_keep_27 : decode cX2_keep 27 = .ok (.getfield 18, 3) := by decide +kernel
theorem dX2_keep_30 : decode cX2_keep 30 = .ok (.iconst 1, 1) := by decide +kernel
theorem dX2_keep_31 : decode cX2_keep 31 = .ok (.iadd, 1) := by decide +kernel
theorem dX2_keep_32 : decode cX2_keep 32 = .ok (.putfield 18, 3) := by decide +kernel
theorem dX2_keep_35 : decode cX2_keep 35 = .ok (.return_, 1) := by decide +kernel
theorem dX2_dropOldest_0 : decode cX2_dropOldest 0 = .ok (.aload_n 0, 1) := by decide +kernel
theorem dX2_dropOldest_1 : decode cX2_dropOldest 1 = .ok (.getfield 11, 3) := by decide +kernel
theorem dX2_dropOldest_4 : decode cX2_dropOldest 4 = .ok (.iconst 0, 1) := by decide +kernel
theorem dX2_dropOldest_5 : decode cX2_dropOldest 5 = .ok (.aaload, 1) := by decide +kernel
theorem dX2_dropOldest_6 : decode cX2_dropOldest 6 = .ok (.astore_n 1, 1) := by decide +kernel
theorem dX2_dropOldest_7 : decode cX2_dropOldest 7 = .ok (.iconst 1, 1) := by decide +kernel
theorem dX2_dropOldest_8 : decode cX2_dropOldest 8 = .ok (.istore_n 2, 1) := by decide +kernel
theorem dX2_dropOldest_9 : decode cX2_dropOldest 9 = .ok (.iload_n 2, 1) := by decide +kernel
theorem dX2_dropOldest_10 : decode cX2_dropOldest 10 = .ok (.iconst 5, 1) := by decide +kernel
theorem dX2_dropOldest_11 : decode cX2_dropOldest 11 = .ok (.if_icmp .ge 23, 3) := by decide +kernel
theorem dX2_dropOldest_14 : decode cX2_dropOldest 14 = .ok (.aload_n 0, 1) := by decide +kernel
theorem dX2_dropOldest_15 : decode cX2_dropOldest 15 = .ok (.getfield 11, 3) := by decide +kernel
theorem dX2_dropOldest_18 : decode cX2_dropOldest 18 = .ok (.iload_n 2, 1) := by decide +kernel
theorem dX2_dropOldest_19 : decode cX2_dropOldest 19 = .ok (.iconst 1, 1) := by decide +kernel
theorem dX2_dropOldest_20 : decode cX2_dropOldest 20 = .ok (.isub, 1) := by decide +kernel
theorem dX2_dropOldest_21 : decode cX2_dropOldest 21 = .ok (.aload_n 0, 1) := by decide +kernel
theorem dX2_dropOldest_22 : decode cX2_dropOldest 22 = .ok (.getfield 11, 3) := by decide +kernel
theorem dX2_dropOldest_25 : decode cX2_dropOldest 25 = .ok (.iload_n 2, 1) := by decide +kernel
theorem dX2_dropOldest_26 : decode cX2_dropOldest 26 = .ok (.aaload, 1) := by decide +kernel
theorem dX2_dropOldest_27 : decode cX2_dropOldest 27 = .ok (.aastore, 1) := by decide +kernel
theorem dX2_dropOldest_28 : decode cX2_dropOldest 28 = .ok (.iinc 2 1, 3) := by decide +kernel
theorem dX2_dropOldest_31 : decode cX2_dropOldest 31 = .ok (.goto (-22), 3) := by decide +kernel
theorem dX2_dropOldest_34 : decode cX2_dropOldest 34 = .ok (.aload_n 0, 1) := by decide +kernel
theorem dX2_dropOldest_35 : decode cX2_dropOldest 35 = .ok (.getfield 11, 3) := by decide +kernel
theorem dX2_dropOldest_38 : decode cX2_dropOldest 38 = .ok (.iconst 4, 1) := by decide +kernel
theorem dX2_dropOldest_39 : decode cX2_dropOldest 39 = .ok (.aload_n 1, 1) := by decide +kernel
theorem dX2_dropOldest_40 : decode cX2_dropOldest 40 = .ok (.aastore, 1) := by decide +kernel
theorem dX2_dropOldest_41 : decode cX2_dropOldest 41 = .ok (.aload_n 0, 1) := by decide +kernel
theorem dX2_dropOldest_42 : decode cX2_dropOldest 42 = .ok (.iconst 4, 1) := by decide +kernel
theorem dX2_dropOldest_43 : decode cX2_dropOldest 43 = .ok (.putfield 18, 3) := by decide +kernel
theorem dX2_dropOldest_46 : decode cX2_dropOldest 46 = .ok (.return_, 1) := by decide +kernel
set_option maxRecDepth 20000 in
theorem ggX2_restore_X10_copyFrom : GoodIn wsX2_restore wsX10_copyFrom := goodIn_r _ [7, 8, 9, 10, 11, 12, 13, 14, 15, 16, 17, 18, 19, 20, 21, 24, 25, 26, 27, 28] (by decide +kernel) (by decide +kernel)
set_option maxRecDepth 20000 in
theorem gX2_restore_X10_copyFrom : GoodIn wsX2_restore (wsV RX2 25 RX10 yX10_copyFrom wsX10_copyFrom) := goodIn_app (goodIn_of _ (by decide +kernel)) ggX2_restore_X10_copyFrom
theorem dX2_restore_0 : decode cX2_restore 0 = .ok (.aload_n 0, 1) := by decide +kernel
theorem dX2_restore_1 : decode cX2_restore 1 = .ok (.getfield 18, 3) := by decide +kernel
theorem dX2_restore_4 : decode cX2_restore 4 = .ok (.iconst 1, 1) := by decide +kernel
theorem dX2_restore_5 : decode cX2_restore 5 = .ok (.if_icmp .ge 4, 3) := by decide +kernel
theorem dX2_restore_8 : decode cX2_restore 8 = .ok (.return_, 1) := by decide +kernel
theorem dX2_restore_9 : decode cX2_restore 9 = .ok (.aload_n 0, 1) := by decide +kernel
theorem dX2_restore_10 : decode cX2_restore 10 = .ok (.dup, 1) := by decide +kernel
theorem dX2_restore_11 : decode cX2_restore 11 = .ok (.getfield 18, 3) := by decide +kernel
theorem dX2_restore_14 : decode cX2_restore 14 = .ok (.iconst 1, 1) := by decide +kernel
theorem dX2_restore_15 : decode cX2_restore 15 = .ok (.isub, 1) := by decide +kernel
theorem dX2_restore_16 : decode cX2_restore 16 = .ok (.putfield 18, 3) := by decide +kernel
theorem dX2_restore_19 : decode cX2_restore 19 = .ok (.aload_n 1, 1) := by decide +kernel
theorem dX2_restore_20 : decode cX2_restore 20 = .ok (.aload_n 0, 1) := by decide +kernel
theorem dX2_restore_21 : decode cX2_restore 21 = .ok (.getfield 11, 3) := by decide +kernel
theorem dX2_restore_24 : decode cX2_restore 24 = .ok (.aload_n 0, 1) := by decide +kernel
theorem dX2_restore_25 : decode cX2_restore 25 = .ok (.getfield 18, 3) := by decide +kernel
theorem dX2_restore_28 : decode cX2_restore 28 = .ok (.aaload, 1) := by decide +kernel
theorem dX2_restore_29 : decode cX2_restore 29 = .ok (.invokevirtual 25, 3) := by decide +kernel
theorem dX2_restore_32 : decode cX2_restore 32 = .ok (.return_, 1) := by decide +kernel
theorem dX3_init_0 : decode cX3_init 0 = .ok (.aload_n 0, 1) := by decide +kernel
theorem dX3_init_1 : decode cX3_init 1 = .ok (.invokespecial 3, 3) := by decide +kernel
theorem dX3_init_4 : decode cX3_init 4 = .ok (.aload_n 0, 1) := by decide +kernel
theorem dX3_init_5 : decode cX3_init 5 = .ok (.sipush 3000, 3) := by decide +kernel
theorem dX3_init_8 : decode cX3_init 8 = .ok (.newarray .long, 2) := by decide +kernel
theorem dX3_init_10 : decode cX3_init 10 = .ok (.putfield 9, 3) := by decide +kernel
theorem dX3_init_13 : decode cX3_init 13 = .ok (.aload_n 0, 1) := by decide +kernel
theorem dX3_init_14 : decode cX3_init 14 = .ok (.sipush 600, 3) := by decide +kernel
theorem dX3_init_17 : decode cX3_init 17 = .ok (.newarray .int, 2) := by decide +kernel
theorem dX3_init_19 : decode cX3_init 19 = .ok (.putfield 15, 3) := by decide +kernel
theorem dX3_init_22 : decode cX3_init 22 = .ok (.return_, 1) := by decide +kernel
theorem dX3_forget_0 : decode cX3_forget 0 = .ok (.aload_n 0, 1) := by decide +kernel
theorem dX3_forget_1 : decode cX3_forget 1 = .ok (.iconst 0, 1) := by decide +kernel
theorem dX3_forget_2 : decode cX3_forget 2 = .ok (.putfield 19, 3) := by decide +kernel
theorem dX3_forget_5 : decode cX3_forget 5 = .ok (.aload_n 0, 1) := by decide +kernel
theorem dX3_forget_6 : decode cX3_forget 6 = .ok (.iconst 0, 1) := by decide +kernel
theorem dX3_forget_7 : decode cX3_forget 7 = .ok (.putfield 23, 3) := by decide +kernel
theorem dX3_forget_10 : decode cX3_forget 10 = .ok (.aload_n 0, 1) := by decide +kernel
theorem dX3_forget_11 : decode cX3_forget 11 = .ok (.lconst 0, 1) := by decide +kernel
theorem dX3_forget_12 : decode cX3_forget 12 = .ok (.putfield 26, 3) := by decide +kernel
theorem dX3_forget_15 : decode cX3_forget 15 = .ok (.return_, 1) := by decide +kernel
theorem dX3_note_0 : decode cX3_note 0 = .ok (.aload_n 0, 1) := by decide +kernel
theorem dX3_note_1 : decode cX3_note 1 = .ok (.getfield 19, 3) := by decide +kernel
theorem dX3_note_4 : decode cX3_note 4 = .ok (.sipush 600, 3) := by decide +kernel
theorem dX3_note_7 : decode cX3_note 7 = .ok (.if_icmp .lt 4, 3) := by decide +kernel
theorem dX3_note_10 : decode cX3_note 10 = .ok (.return_, 1) := by decide +kernel
theorem dX3_note_11 : decode cX3_note 11 = .ok (.aload_n 0, 1) := by decide +kernel
theorem dX3_note_12 : decode cX3_note 12 = .ok (.getfield 19, 3) := by decide +kernel
theorem dX3_note_15 : decode cX3_note 15 = .ok (.iconst 5, 1) := by decide +kernel
theorem dX3_note_16 : decode cX3_note 16 = .ok (.imul, 1) := by decide +kernel
theorem dX3_note_17 : decode cX3_note 17 = .ok (.istore_n 2, 1) := by decide +kernel
theorem dX3_note_18 : decode cX3_note 18 = .ok (.aload_n 0, 1) := by decide +kernel
theorem dX3_note_19 : decode cX3_note 19 = .ok (.getfield 9, 3) := by decide +kernel
theorem dX3_note_22 : decode cX3_note 22 = .ok (.iload_n 2, 1) := by decide +kernel
theorem dX3_note_23 : decode cX3_note 23 = .ok (.aload_n 1, 1) := by decide +kernel
theorem dX3_note_24 : decode cX3_note 24 = .ok (.getfield 30, 3) := by decide +kernel
theorem dX3_note_27 : decode cX3_note 27 = .ok (.i2l, 1) := by decide +kernel
theorem dX3_note_28 : decode cX3_note 28 = .ok (.lastore, 1) := by decide +kernel
theorem dX3_note_29 : decode cX3_note 29 = .ok (.aload_n 0, 1) := by decide +kernel
theorem dX3_note_30 : decode cX3_note 30 = .ok (.getfield 9, 3) := by decide +kernel
theorem dX3_note_33 : decode cX3_note 33 = .ok (.iload_n 2, 1) := by decide +kernel
theorem dX3_note_34 : decode cX3_note 34 = .ok (.iconst 1, 1) := by decide +kernel
theorem dX3_note_35 : decode cX3_note 35 = .ok (.iadd, 1) := by decide +kernel
theorem dX3_note_36 : decode cX3_note 36 = .ok (.aload_n 1, 1) := by decide +kernel
theorem dX3_note_37 : decode cX3_note 37 = .ok (.getfield 35, 3) := by decide +kernel
theorem dX3_note_40 : decode cX3_note 40 = .ok (.i2l, 1) := by decide +kernel
theorem dX3_note_41 : decode cX3_note 41 = .ok (.lastore, 1) := by decide +kernel
theorem dX3_note_42 : decode cX3_note 42 = .ok (.aload_n 0, 1) := by decide +kernel
theorem dX3_note_43 : decode cX3_note 43 = .ok (.getfield 9, 3) := by decide +kernel
theorem dX3_note_46 : decode cX3_note 46 = .ok (.iload_n 2, 1) := by decide +kernel
theorem dX3_note_47 : decode cX3_note 47 = .ok (.iconst 2, 1) := by decide +kernel
theorem dX3_note_48 : decode cX3_note 48 = .ok (.iadd, 1) := by decide +kernel
theorem dX3_note_49 : decode cX3_note 49 = .ok (.aload_n 1, 1) := by decide +kernel
theorem dX3_note_50 : decode cX3_note 50 = .ok (.getfield 38, 3) := by decide +kernel
theorem dX3_note_53 : decode cX3_note 53 = .ok (.lastore, 1) := by decide +kernel
theorem dX3_note_54 : decode cX3_note 54 = .ok (.aload_n 0, 1) := by decide +kernel
theorem dX3_note_55 : decode cX3_note 55 = .ok (.getfield 9, 3) := by decide +kernel
theorem dX3_note_58 : decode cX3_note 58 = .ok (.iload_n 2, 1) := by decide +kernel
theorem dX3_note_59 : decode cX3_note 59 = .ok (.iconst 3, 1) := by decide +kernel
theorem dX3_note_60 : decode cX3_note 60 = .ok (.iadd, 1) := by decide +kernel
theorem dX3_note_61 : decode cX3_note 61 = .ok (.aload_n 1, 1) := by decide +kernel
theorem dX3_note_62 : decode cX3_note 62 = .ok (.getfield 41, 3) := by decide +kernel
theorem dX3_note_65 : decode cX3_note 65 = .ok (.i2l, 1) := by decide +kernel
theorem dX3_note_66 : decode cX3_note 66 = .ok (.lastore, 1) := by decide +kernel
theorem dX3_note_67 : decode cX3_note 67 = .ok (.aload_n 0, 1) := by decide +kernel
theorem dX3_note_68 : decode cX3_note 68 = .ok (.getfield 9, 3) := by decide +kernel
theorem dX3_note_71 : decode cX3_note 71 = .ok (.iload_n 2, 1) := by decide +kernel
theorem dX3_note_72 : decode cX3_note 72 = .ok (.iconst 4, 1) := by decide +kernel
theorem dX3_note_73 : decode cX3_note 73 = .ok (.iadd, 1) := by decide +kernel
theorem dX3_note_74 : decode cX3_note 74 = .ok (.aload_n 1, 1) := by decide +kernel
theorem dX3_note_75 : decode cX3_note 75 = .ok (.getfield 44, 3) := by decide +kernel
theorem dX3_note_78 : decode cX3_note 78 = .ok (.i2l, 1) := by decide +kernel
theorem dX3_note_79 : decode cX3_note 79 = .ok (.lastore, 1) := by decide +kernel
theorem dX3_note_80 : decode cX3_note 80 = .ok (.aload_n 0, 1) := by decide +kernel
theorem dX3_note_81 : decode cX3_note 81 = .ok (.dup, 1) := by decide +kernel
theorem dX3_note_82 : decode cX3_note 82 = .ok (.getfield 26, 3) := by decide +kernel
theorem dX3_note_85 : decode cX3_note 85 = .ok (.aload_n 1, 1) := by decide +kernel
theorem dX3_note_86 : decode cX3_note 86 = .ok (.getfield 41, 3) := by decide +kernel
theorem dX3_note_89 : decode cX3_note 89 = .ok (.i2l, 1) := by decide +kernel
theorem dX3_note_90 : decode cX3_note 90 = .ok (.ladd, 1) := by decide +kernel
theorem dX3_note_91 : decode cX3_note 91 = .ok (.putfield 26, 3) := by decide +kernel
theorem dX3_note_94 : decode cX3_note 94 = .ok (.aload_n 0, 1) := by decide +kernel
theorem dX3_note_95 : decode cX3_note 95 = .ok (.dup, 1) := by decide +kernel
theorem dX3_note_96 : decode cX3_note 96 = .ok (.getfield 19, 3) := by decide +kernel
theorem dX3_note_99 : decode cX3_note 99 = .ok (.iconst 1, 1) := by decide +kernel
theorem dX3_note_100 : decode cX3_note 100 = .ok (.iadd, 1) := by decide +kernel
theorem dX3_note_101 : decode cX3_note 101 = .ok (.putfield 19, 3) := by decide +kernel
theorem dX3_note_104 : decode cX3_note 104 = .ok (.return_, 1) := by decide +kernel
theorem dX3_noteEcho_0 : decode cX3_noteEcho 0 = .ok (.aload_n 0, 1) := by decide +kernel
theorem dX3_noteEcho_1 : decode cX3_noteEcho 1 = .ok (.getfield 19, 3) := by decide +kernel
theorem dX3_noteEcho_4 : decode cX3_noteEcho 4 = .ok (.iconst 1, 1) := by decide +kernel
theorem dX3_noteEcho_5 : decode cX3_noteEcho 5 = .ok (.isub, 1) := by decide +kernel
theorem dX3_noteEcho_6 : decode cX3_noteEcho 6 = .ok (.istore_n 1, 1) := by decide +kernel
theorem dX3_noteEcho_7 : decode cX3_noteEcho 7 = .ok (.aload_n 0, 1) := by decide +kernel
theorem dX3_noteEcho_8 : decode cX3_noteEcho 8 = .ok (.getfield 23, 3) := by decide +kernel
theorem dX3_noteEcho_11 : decode cX3_noteEcho 11 = .ok (.ifCond .le 19, 3) := by decide +kernel
theorem dX3_noteEcho_14 : decode cX3_noteEcho 14 = .ok (.aload_n 0, 1) := by decide +kernel
theorem dX3_noteEcho_15 : decode cX3_noteEcho 15 = .ok (.getfield 15, 3) := by decide +kernel
theorem dX3_noteEcho_18 : decode cX3_noteEcho 18 = .ok (.aload_n 0, 1) := by decide +kernel
theorem dX3_noteEcho_19 : decode cX3_noteEcho 19 = .ok (.getfield 23, 3) := by decide +kernel
theorem dX3_noteEcho_22 : decode cX3_noteEcho 22 = .ok (.iconst 1, 1) := by decide +kernel
theorem dX3_noteEcho_23 : decode cX3_noteEcho 23 = .ok (.isub, 1) := by decide +kernel
theorem dX3_noteEcho_24 : decode cX3_noteEcho 24 = .ok (.iaload, 1) := by decide +kernel
theorem dX3_noteEcho_25 : decode cX3_noteEcho 25 = .ok (.iload_n 1, 1) := by decide +kernel
theorem dX3_noteEcho_26 : decode cX3_noteEcho 26 = .ok (.if_icmp .ne 4, 3) := by decide +kernel
theorem dX3_noteEcho_29 : decode cX3_noteEcho 29 = .ok (.return_, 1) := by decide +kernel
theorem dX3_noteEcho_30 : decode cX3_noteEcho 30 = .ok (.aload_n 0, 1) := by decide +kernel
theorem dX3_noteEcho_31 : decode cX3_noteEcho 31 = .ok (.getfield 23, 3) := by decide +kernel
theorem dX3_noteEcho_34 : decode cX3_noteEcho 34 = .ok (.sipush 600, 3) := by decide +kernel
theorem dX3_noteEcho_37 : decode cX3_noteEcho 37 = .ok (.if_icmp .ge 23, 3) := by decide +kernel
theorem dX3_noteEcho_40 : decode cX3_noteEcho 40 = .ok (.aload_n 0, 1) := by decide +kernel
theorem dX3_noteEcho_41 : decode cX3_noteEcho 41 = .ok (.getfield 15, 3) := by decide +kernel
theorem dX3_noteEcho_44 : decode cX3_noteEcho 44 = .ok (.aload_n 0, 1) := by decide +kernel
theorem dX3_noteEcho_45 : decode cX3_noteEcho 45 = .ok (.getfield 23, 3) := by decide +kernel
theorem dX3_noteEcho_48 : decode cX3_noteEcho 48 = .ok (.iload_n 1, 1) := by decide +kernel
theorem dX3_noteEcho_49 : decode cX3_noteEcho 49 = .ok (.iastore, 1) := by decide +kernel
theorem dX3_noteEcho_50 : decode cX3_noteEcho 50 = .ok (.aload_n 0, 1) := by decide +kernel
theorem dX3_noteEcho_51 : decode cX3_noteEcho 51 = .ok (.dup, 1) := by decide +kernel
theorem dX3_noteEcho_52 : decode cX3_noteEcho 52 = .ok (.getfield 23, 3) := by decide +kernel
theorem dX3_noteEcho_55 : decode cX3_noteEcho 55 = .ok (.iconst 1, 1) := by decide +kernel
theorem dX3_noteEcho_56 : decode cX3_noteEcho 56 = .ok (.iadd, 1) := by decide +kernel
theorem dX3_noteEcho_57 : decode cX3_noteEcho 57 = .ok (.putfield 23, 3) := by decide +kernel
theorem dX3_noteEcho_60 : decode cX3_noteEcho 60 = .ok (.return_, 1) := by decide +kernel
theorem dX3_numberOf_0 : decode cX3_numberOf 0 = .ok (.iload_n 1, 1) := by decide +kernel
theorem dX3_numberOf_1 : decode cX3_numberOf 1 = .ok (.ifCond .lt 20, 3) := by decide +kernel
theorem dX3_numberOf_4 : decode cX3_numberOf 4 = .ok (.iload_n 1, 1) := by decide +kernel
theorem dX3_numberOf_5 : decode cX3_numberOf 5 = .ok (.aload_n 0, 1) := by decide +kernel
theorem dX3_numberOf_6 : decode cX3_numberOf 6 = .ok (.getfield 19, 3) := by decide +kernel
theorem dX3_numberOf_9 : decode cX3_numberOf 9 = .ok (.if_icmp .ge 12, 3) := by decide +kernel
theorem dX3_numberOf_12 : decode cX3_numberOf 12 = .ok (.iload_n 2, 1) := by decide +kernel
theorem dX3_numberOf_13 : decode cX3_numberOf 13 = .ok (.ifCond .lt 8, 3) := by decide +kernel
theorem dX3_numberOf_16 : decode cX3_numberOf 16 = .ok (.iload_n 2, 1) := by decide +kernel
theorem dX3_numberOf_17 : decode cX3_numberOf 17 = .ok (.iconst 5, 1) := by decide +kernel
theorem dX3_numberOf_18 : decode cX3_numberOf 18 = .ok (.if_icmp .lt 7, 3) := by decide +kernel
theorem dX3_numberOf_21 : decode cX3_numberOf 21 = .ok (.ldc2_w 47, 3) := by decide +kernel
theorem dX3_numberOf_24 : decode cX3_numberOf 24 = .ok (.lreturn, 1) := by decide +kernel
theorem dX3_numberOf_25 : decode cX3_numberOf 25 = .ok (.aload_n 0, 1) := by decide +kernel
theorem dX3_numberOf_26 : decode cX3_numberOf 26 = .ok (.getfield 9, 3) := by decide +kernel
theorem dX3_numberOf_29 : decode cX3_numberOf 29 = .ok (.iload_n 1, 1) := by decide +kernel
theorem dX3_numberOf_30 : decode cX3_numberOf 30 = .ok (.iconst 5, 1) := by decide +kernel
theorem dX3_numberOf_31 : decode cX3_numberOf 31 = .ok (.imul, 1) := by decide +kernel
theorem dX3_numberOf_32 : decode cX3_numberOf 32 = .ok (.iload_n 2, 1) := by decide +kernel
theorem dX3_numberOf_33 : decode cX3_numberOf 33 = .ok (.iadd, 1) := by decide +kernel
theorem dX3_numberOf_34 : decode cX3_numberOf 34 = .ok (.laload, 1) := by decide +kernel
theorem dX3_numberOf_35 : decode cX3_numberOf 35 = .ok (.lreturn, 1) := by decide +kernel
theorem dX3_echoAt_0 : decode cX3_echoAt 0 = .ok (.iload_n 1, 1) := by decide +kernel
theorem dX3_echoAt_1 : decode cX3_echoAt 1 = .ok (.ifCond .ge 6, 3) := by decide +kernel
theorem dX3_echoAt_4 : decode cX3_echoAt 4 = .ok (.ldc 49, 2) := by decide +kernel
theorem dX3_echoAt_6 : decode cX3_echoAt 6 = .ok (.ireturn, 1) := by decide +kernel
theorem dX3_echoAt_7 : decode cX3_echoAt 7 = .ok (.iload_n 1, 1) := by decide +kernel
theorem dX3_echoAt_8 : decode cX3_echoAt 8 = .ok (.aload_n 0, 1) := by decide +kernel
theorem dX3_echoAt_9 : decode cX3_echoAt 9 = .ok (.getfield 23, 3) := by decide +kernel
theorem dX3_echoAt_12 : decode cX3_echoAt 12 = .ok (.if_icmp .ge 12, 3) := by decide +kernel
theorem dX3_echoAt_15 : decode cX3_echoAt 15 = .ok (.aload_n 0, 1) := by decide +kernel
theorem dX3_echoAt_16 : decode cX3_echoAt 16 = .ok (.getfield 15, 3) := by decide +kernel
theorem dX3_echoAt_19 : decode cX3_echoAt 19 = .ok (.iload_n 1, 1) := by decide +kernel
theorem dX3_echoAt_20 : decode cX3_echoAt 20 = .ok (.iaload, 1) := by decide +kernel
theorem dX3_echoAt_21 : decode cX3_echoAt 21 = .ok (.goto 5, 3) := by decide +kernel
theorem dX3_echoAt_24 : decode cX3_echoAt 24 = .ok (.ldc 50, 2) := by decide +kernel
theorem dX3_echoAt_26 : decode cX3_echoAt 26 = .ok (.ireturn, 1) := by decide +kernel
theorem dX3_meanEnergy_0 : decode cX3_meanEnergy 0 = .ok (.aload_n 0, 1) := by decide +kernel
theorem dX3_meanEnergy_1 : decode cX3_meanEnergy 1 = .ok (.getfield 19, 3) := by decide +kernel
theorem dX3_meanEnergy_4 : decode cX3_meanEnergy 4 = .ok (.ifCond .ne 7, 3) := by decide +kernel
theorem dX3_meanEnergy_7 : decode cX3_meanEnergy 7 = .ok (.fconst 0, 1) := by decide +kernel
theorem dX3_meanEnergy_8 : decode cX3_meanEnergy 8 = .ok (.goto 14, 3) := by decide +kernel
theorem dX3_meanEnergy_11 : decode cX3_meanEnergy 11 = .ok (.aload_n 0, 1) := by decide +kernel
theorem dX3_meanEnergy_12 : decode cX3_meanEnergy 12 = .ok (.getfield 26, 3) := by decide +kernel
theorem dX3_meanEnergy_15 : decode cX3_meanEnergy 15 = .ok (.l2f, 1) := by decide +kernel
theorem dX3_meanEnergy_16 : decode cX3_meanEnergy 16 = .ok (.aload_n 0, 1) := by decide +kernel
theorem dX3_meanEnergy_17 : decode cX3_meanEnergy 17 = .ok (.getfield 19, 3) := by decide +kernel
theorem dX3_meanEnergy_20 : decode cX3_meanEnergy 20 = .ok (.i2f, 1) := by decide +kernel
theorem dX3_meanEnergy_21 : decode cX3_meanEnergy 21 = .ok (.fdiv, 1) := by decide +kernel
theorem dX3_meanEnergy_22 : decode cX3_meanEnergy 22 = .ok (.freturn, 1) := by decide +kernel
theorem dX4_init_0 : decode cX4_init 0 = .ok (.aload_n 0, 1) := by decide +kernel
theorem dX4_init_1 : decode cX4_init 1 = .ok (.invokespecial 3, 3) := by decide +kernel
theorem dX4_init_4 : decode cX4_init 4 = .ok (.aload_n 0, 1) := by decide +kernel
theorem dX4_init_5 : decode cX4_init 5 = .ok (.bipush 48, 2) := by decide +kernel
theorem dX4_init_7 : decode cX4_init 7 = .ok (.newarray .int, 2) := by decide +kernel
theorem dX4_init_9 : decode cX4_init 9 = .ok (.putfield 9, 3) := by decide +kernel
theorem dX4_init_12 : decode cX4_init 12 = .ok (.return_, 1) := by decide +kernel
set_option maxRecDepth 20000 in
theorem ggX4_isAllowed_X0_isPlace : GoodIn wsX4_isAllowed wsX0_isPlace := goodIn_r _ [4] (by decide +kernel) (by decide +kernel)
set_option maxRecDepth 20000 in
theorem gX4_isAllowed_X0_isPlace : GoodIn wsX4_isAllowed (va_wsS RX4 15 yX0_isPlace wsX0_isPlace) := goodIn_app (goodIn_of _ (by decide +kernel)) ggX4_isAllowed_X0_isPlace
set_option maxRecDepth 20000 in
theorem ggX4_isAllowed_X4_leastBy : GoodIn wsX4_isAllowed wsX4_leastBy := goodIn_r _ [8, 9, 10, 7, 11] (by decide +kernel) (by decide +kernel)
set_option maxRecDepth 20000 in
theorem gX4_isAllowed_X4_leastBy : GoodIn wsX4_isAllowed (va_wsS RX4 21 yX4_leastBy wsX4_leastBy) := goodIn_app (goodIn_of _ (by decide +kernel)) ggX4_isAllowed_X4_leastBy
set_option maxRecDepth 20000 in
theorem ggX4_isAllowed_X4_mostBy : GoodIn wsX4_isAllowed wsX4_mostBy := goodIn_r _ [14, 9, 10, 7, 11] (by decide +kernel) (by decide +kernel)
set_option maxRecDepth 20000 in
theorem gX4_isAllowed_X4_mostBy : GoodIn wsX4_isAllowed (va_wsS RX4 25 yX4_mostBy wsX4_mostBy) := goodIn_app (goodIn_of _ (by decide +kernel)) ggX4_isAllowed_X4_mostBy
theorem dX4_isAllowed_0 : decode cX4_isAllowed 0 = .ok (.iload_n 0, 1) := by decide +kernel
theorem dX4_isAllowed_1 : decode cX4_isAllowed 1 = .ok (.ifCond .lt 47, 3) := by decide +kernel
theorem dX4_isAllowed_4 : decode cX4_isAllowed 4 = .ok (.iload_n 0, 1) := by decide +kernel
theorem dX4_isAllowed_5 : decode cX4_isAllowed 5 = .ok (.iconst 4, 1) := by decide +kernel
theorem dX4_isAllowed_6 : decode cX4_isAllowed 6 = .ok (.if_icmp .gt 42, 3) := by decide +kernel
theorem dX4_isAllowed_9 : decode cX4_isAllowed 9 = .ok (.iload_n 1, 1) := by decide +kernel
theorem dX4_isAllowed_10 : decode cX4_isAllowed 10 = .ok (.invokestatic 15, 3) := by decide +kernel
theorem dX4_isAllowed_13 : decode cX4_isAllowed 13 = .ok (.ifCond .eq 35, 3) := by decide +kernel
theorem dX4_isAllowed_16 : decode cX4_isAllowed 16 = .ok (.iload_n 2, 1) := by decide +kernel
theorem dX4_isAllowed_17 : decode cX4_isAllowed 17 = .ok (.iconst 1, 1) := by decide +kernel
theorem dX4_isAllowed_18 : decode cX4_isAllowed 18 = .ok (.if_icmp .lt 30, 3) := by decide +kernel
theorem dX4_isAllowed_21 : decode cX4_isAllowed 21 = .ok (.iload_n 2, 1) := by decide +kernel
theorem dX4_isAllowed_22 : decode cX4_isAllowed 22 = .ok (.sipush 27720, 3) := by decide +kernel
theorem dX4_isAllowed_25 : decode cX4_isAllowed 25 = .ok (.if_icmp .gt 23, 3) := by decide +kernel
theorem dX4_isAllowed_28 : decode cX4_isAllowed 28 = .ok (.iload_n 3, 1) := by decide +kernel
theorem dX4_isAllowed_29 : decode cX4_isAllowed 29 = .ok (.iload_n 0, 1) := by decide +kernel
theorem dX4_isAllowed_30 : decode cX4_isAllowed 30 = .ok (.invokestatic 21, 3) := by decide +kernel
theorem dX4_isAllowed_33 : decode cX4_isAllowed 33 = .ok (.if_icmp .lt 15, 3) := by decide +kernel
theorem dX4_isAllowed_36 : decode cX4_isAllowed 36 = .ok (.iload_n 3, 1) := by decide +kernel
theorem dX4_isAllowed_37 : decode cX4_isAllowed 37 = .ok (.iload_n 0, 1) := by decide +kernel
theorem dX4_isAllowed_38 : decode cX4_isAllowed 38 = .ok (.invokestatic 25, 3) := by decide +kernel
theorem dX4_isAllowed_41 : decode cX4_isAllowed 41 = .ok (.if_icmp .gt 7, 3) := by decide +kernel
theorem dX4_isAllowed_44 : decode cX4_isAllowed 44 = .ok (.iconst 1, 1) := by decide +kernel
theorem dX4_isAllowed_45 : decode cX4_isAllowed 45 = .ok (.goto 4, 3) := by decide +kernel
theorem dX4_isAllowed_48 : decode cX4_isAllowed 48 = .ok (.iconst 0, 1) := by decide +kernel
theorem dX4_isAllowed_49 : decode cX4_isAllowed 49 = .ok (.ireturn, 1) := by decide +kernel
set_option maxRecDepth 20000 in
theorem ggX4_leastBy_X4_mayBeNegative : GoodIn wsX4_leastBy wsX4_mayBeNegative := goodIn_r _ [4] (by decide +kernel) (by decide +kernel)
set_option maxRecDepth 20000 in
theorem gX4_leastBy_X4_mayBeNegative : GoodIn wsX4_leastBy (va_wsS RX4 28 yX4_mayBeNegative wsX4_mayBeNegative) := goodIn_app (goodIn_of _ (by decide +kernel)) ggX4_leastBy_X4_mayBeNegative
theorem dX4_leastBy_0 : decode cX4_leastBy 0 = .ok (.iload_n 0, 1) := by decide +kernel
theorem dX4_leastBy_1 : decode cX4_leastBy 1 = .ok (.invokestatic 28, 3) := by decide +kernel
theorem dX4_leastBy_4 : decode cX4_leastBy 4 = .ok (.ifCond .eq 9, 3) := by decide +kernel
theorem dX4_leastBy_7 : decode cX4_leastBy 7 = .ok (.sipush (-9999), 3) := by decide +kernel
theorem dX4_leastBy_10 : decode cX4_leastBy 10 = .ok (.goto 4, 3) := by decide +kernel
theorem dX4_leastBy_13 : decode cX4_leastBy 13 = .ok (.iconst 0, 1) := by decide +kernel
theorem dX4_leastBy_14 : decode cX4_leastBy 14 = .ok (.ireturn, 1) := by decide +kernel
set_option maxRecDepth 20000 in
theorem ggX4_mostBy_X4_mayBeNegative : GoodIn wsX4_mostBy wsX4_mayBeNegative := goodIn_r _ [4] (by decide +kernel) (by decide +kernel)
set_option maxRecDepth 20000 in
theorem gX4_mostBy_X4_mayBeNegative : GoodIn wsX4_mostBy (va_wsS RX4 28 yX4_mayBeNegative wsX4_mayBeNegative) := goodIn_app (goodIn_of _ (by decide +kernel)) ggX4_mostBy_X4_mayBeNegative
theorem dX4_mostBy_0 : decode cX4_mostBy 0 = .ok (.iload_n 0, 1) := by decide +kernel
theorem dX4_mostBy_1 : decode cX4_mostBy 1 = .ok (.invokestatic 28, 3) := by decide +kernel
theorem dX4_mostBy_4 : decode cX4_mostBy 4 = .ok (.ifCond .eq 7, 3) := by decide +kernel
theorem dX4_mostBy_7 : decode cX4_mostBy 7 = .ok (.sipush 9999, 3) := by decide +kernel
theorem dX4_mostBy_10 : decode cX4_mostBy 10 = .ok (.ireturn, 1) := by decide +kernel
theorem dX4_mostBy_11 : decode cX4_mostBy 11 = .ok (.iload_n 0, 1) := by decide +kernel
theorem dX4_mostBy_12 : decode cX4_mostBy 12 = .ok (.ifCond .ne 9, 3) := by decide +kernel
theorem dX4_mostBy_15 : decode cX4_mostBy 15 = .ok (.sipush 1000, 3) := by decide +kernel
theorem dX4_mostBy_18 : decode cX4_mostBy 18 = .ok (.goto 4, 3) := by decide +kernel
theorem dX4_mostBy_21 : decode cX4_mostBy 21 = .ok (.iconst 0, 1) := by decide +kernel
theorem dX4_mostBy_22 : decode cX4_mostBy 22 = .ok (.ireturn, 1) := by decide +kernel
theorem dX4_mayBeNegative_0 : decode cX4_mayBeNegative 0 = .ok (.iload_n 0, 1) := by decide +kernel
theorem dX4_mayBeNegative_1 : decode cX4_mayBeNegative 1 = .ok (.iconst 2, 1) := by decide +kernel
theorem dX4_mayBeNegative_2 : decode cX4_mayBeNegative 2 = .ok (.if_icmp .eq 8, 3) := by decide +kernel
theorem dX4_mayBeNegative_5 : decode cX4_mayBeNegative 5 = .ok (.iload_n 0, 1) := by decide +kernel
theorem dX4_mayBeNegative_6 : decode cX4_mayBeNegative 6 = .ok (.iconst 3, 1) := by decide +kernel
theorem dX4_mayBeNegative_7 : decode cX4_mayBeNegative 7 = .ok (.if_icmp .ne 7, 3) := by decide +kernel
theorem dX4_mayBeNegative_10 : decode cX4_mayBeNegative 10 = .ok (.iconst 1, 1) := by decide +kernel
theorem dX4_mayBeNegative_11 : decode cX4_mayBeNegative 11 = .ok (.goto 4, 3) := by decide +kernel
theorem dX4_mayBeNegative_14 : decode cX4_mayBeNegative 14 = .ok (.iconst 0, 1) := by decide +kernel
theorem dX4_mayBeNegative_15 : decode cX4_mayBeNegative 15 = .ok (.ireturn, 1) := by decide +kernel
set_option maxRecDepth 20000 in
theorem ggX4_hasBy_X4_mayBeNegative : GoodIn wsX4_hasBy wsX4_mayBeNegative := goodIn_r _ [4] (by decide +kernel) (by decide +kernel)
set_option maxRecDepth 20000 in
theorem gX4_hasBy_X4_mayBeNegative : GoodIn wsX4_hasBy (va_wsS RX4 28 yX4_mayBeNegative wsX4_mayBeNegative) := goodIn_app (goodIn_of _ (by decide +kernel)) ggX4_hasBy_X4_mayBeNegative
theorem dX4_hasBy_0 : decode cX4_hasBy 0 = .ok (.iload_n 0, 1) := by decide +kernel
theorem dX4_hasBy_1 : decode cX4_hasBy 1 = .ok (.ifCond .eq 10, 3) := by decide +kernel
theorem dX4_hasBy_4 : decode cX4_hasBy 4 = .ok (.iload_n 0, 1) := by decide +kernel
theorem dX4_hasBy_5 : decode cX4_hasBy 5 = .ok (.invokestatic 28, 3) := by decide +kernel
theorem dX4_hasBy_8 : decode cX4_hasBy 8 = .ok (.ifCond .eq 7, 3) := by decide +kernel
theorem dX4_hasBy_11 : decode cX4_hasBy 11 = .ok (.iconst 1, 1) := by decide +kernel
theorem dX4_hasBy_12 : decode cX4_hasBy 12 = .ok (.goto 4, 3) := by decide +kernel
theorem dX4_hasBy_15 : decode cX4_hasBy 15 = .ok (.iconst 0, 1) := by decide +kernel
theorem dX4_hasBy_16 : decode cX4_hasBy 16 = .ok (.ireturn, 1) := by decide +kernel
theorem dX4_word_0 : decode cX4_word 0 = .ok (.iload_n 0, 1) := by decide +kernel
theorem dX4_word_1 : decode cX4_word 1 = .ok (.tableswitch 43 0 3 #[31, 34, 37, 40], 31) := by decide +kernel
theorem dX4_word_32 : decode cX4_word 32 = .ok (.ldc 31, 2) := by decide +kernel
theorem dX4_word_34 : decode cX4_word 34 = .ok (.areturn, 1) := by decide +kernel
theorem dX4_word_35 : decode cX4_word 35 = .ok (.ldc 33, 2) := by decide +kernel
theorem dX4_word_37 : decode cX4_word 37 = .ok (.areturn, 1) := by decide +kernel
theorem dX4_word_38 : decode cX4_word 38 = .ok (.ldc 35, 2) := by decide +kernel
theorem dX4_word_40 : decode cX4_word 40 = .ok (.areturn, 1) := by decide +kernel
theorem dX4_word_41 : decode cX4_word 41 = .ok (.ldc 37, 2) := by decide +kernel
theorem dX4_word_43 : decode cX4_word 43 = .ok (.areturn, 1) := by decide +kernel
theorem dX4_word_44 : decode cX4_word 44 = .ok (.ldc 39, 2) := by decide +kernel
theorem dX4_word_46 : decode cX4_word 46 = .ok (.areturn, 1) := by decide +kernel
theorem dX4_has_0 : decode cX4_has 0 = .ok (.iload_n 1, 1) := by decide +kernel
theorem dX4_has_1 : decode cX4_has 1 = .ok (.ifCond .lt 15, 3) := by decide +kernel
theorem dX4_has_4 : decode cX4_has 4 = .ok (.iload_n 1, 1) := by decide +kernel
theorem dX4_has_5 : decode cX4_has 5 = .ok (.aload_n 0, 1) := by decide +kernel
theorem dX4_has_6 : decode cX4_has 6 = .ok (.getfield 41, 3) := by decide +kernel
theorem dX4_has_9 : decode cX4_has 9 = .ok (.if_icmp .ge 7, 3) := by decide +kernel
theorem dX4_has_12 : decode cX4_has 12 = .ok (.iconst 1, 1) := by decide +kernel
theorem dX4_has_13 : decode cX4_has 13 = .ok (.goto 4, 3) := by decide +kernel
theorem dX4_has_16 : decode cX4_has 16 = .ok (.iconst 0, 1) := by decide +kernel
theorem dX4_has_17 : decode cX4_has 17 = .ok (.ireturn, 1) := by decide +kernel
set_option maxRecDepth 20000 in
theorem ggX4_numberOf_X4_has : GoodIn wsX4_numberOf wsX4_has := goodIn_r _ [7, 8, 9, 10] (by decide +kernel) (by decide +kernel)
set_option maxRecDepth 20000 in
theorem gX4_numberOf_X4_has : GoodIn wsX4_numberOf (wsV RX4 45 RX4 yX4_has wsX4_has) := goodIn_app (goodIn_of _ (by decide +kernel)) ggX4_numberOf_X4_has
theorem dX4_numberOf_0 : decode cX4_numberOf 0 = .ok (.aload_n 0, 1) := by decide +kernel
theorem dX4_numberOf_1 : decode cX4_numberOf 1 = .ok (.iload_n 1, 1) := by decide +kernel
theorem dX4_numberOf_2 : decode cX4_numberOf 2 = .ok (.invokevirtual 45, 3) := by decide +kernel
theorem dX4_numberOf_5 : decode cX4_numberOf 5 = .ok (.ifCond .eq 12, 3) := by decide +kernel
theorem dX4_numberOf_8 : decode cX4_numberOf 8 = .ok (.iload_n 2, 1) := by decide +kernel
theorem dX4_numberOf_9 : decode cX4_numberOf 9 = .ok (.ifCond .lt 8, 3) := by decide +kernel
theorem dX4_numberOf_12 : decode cX4_numberOf 12 = .ok (.iload_n 2, 1) := by decide +kernel
theorem dX4_numberOf_13 : decode cX4_numberOf 13 = .ok (.iconst 4, 1) := by decide +kernel
theorem dX4_numberOf_14 : decode cX4_numberOf 14 = .ok (.if_icmp .lt 6, 3) := by decide +kernel
theorem dX4_numberOf_17 : decode cX4_numberOf 17 = .ok (.ldc 48, 2) := by decide +kernel
theorem dX4_numberOf_19 : decode cX4_numberOf 19 = .ok (.ireturn, 1) := by decide +kernel
theorem dX4_numberOf_20 : decode cX4_numberOf 20 = .ok (.aload_n 0, 1) := by decide +kernel
theorem dX4_numberOf_21 : decode cX4_numberOf 21 = .ok (.getfield 9, 3) := by decide +kernel
theorem dX4_numberOf_24 : decode cX4_numberOf 24 = .ok (.iload_n 1, 1) := by decide +kernel
theorem dX4_numberOf_25 : decode cX4_numberOf 25 = .ok (.iconst 4, 1) := by decide +kernel
theorem dX4_numberOf_26 : decode cX4_numberOf 26 = .ok (.imul, 1) := by decide +kernel
theorem dX4_numberOf_27 : decode cX4_numberOf 27 = .ok (.iload_n 2, 1) := by decide +kernel
theorem dX4_numberOf_28 : decode cX4_numberOf 28 = .ok (.iadd, 1) := by decide +kernel
theorem dX4_numberOf_29 : decode cX4_numberOf 29 = .ok (.iaload, 1) := by decide +kernel
theorem dX4_numberOf_30 : decode cX4_numberOf 30 = .ok (.ireturn, 1) := by decide +kernel
set_option maxRecDepth 20000 in
theorem ggX4_covers_X4_numberOf : GoodIn wsX4_covers wsX4_numberOf := goodIn_r _ [5, 6, 7, 8, 9, 10, 4, 11, 12, 17, 18] (by decide +kernel) (by decide +kernel)
set_option maxRecDepth 20000 in
theorem gX4_covers_X4_numberOf : GoodIn wsX4_covers (wsV RX4 49 RX4 yX4_numberOf wsX4_numberOf) := goodIn_app (goodIn_of _ (by decide +kernel)) ggX4_covers_X4_numberOf
set_option maxRecDepth 20000 in
theorem ggX4_covers_J9_floorMod_7cf53 : GoodIn wsX4_covers wsJ9_floorMod_7cf53 := goodIn_r _ [16] (by decide +kernel) (by decide +kernel)
set_option maxRecDepth 20000 in
theorem gX4_covers_J9_floorMod_7cf53 : GoodIn wsX4_covers (va_wsS RX4 53 yJ9_floorMod_7cf53 wsJ9_floorMod_7cf53) := goodIn_app (goodIn_of _ (by decide +kernel)) ggX4_covers_J9_floorMod_7cf53
theorem dX4_covers_0 : decode cX4_covers 0 = .ok (.iload_n 2, 1) := by decide +kernel
theorem dX4_covers_1 : decode cX4_covers 1 = .ok (.aload_n 0, 1) := by decide +kernel
theorem dX4_covers_2 : decode cX4_covers 2 = .ok (.iload_n 1, 1) := by decide +kernel
theorem dX4_covers_3 : decode cX4_covers 3 = .ok (.iconst 1, 1) := by decide +kernel
theorem dX4_covers_4 : decode cX4_covers 4 = .ok (.invokevirtual 49, 3) := by decide +kernel
theorem dX4_covers_7 : decode cX4_covers 7 = .ok (.isub, 1) := by decide +kernel
theorem dX4_covers_8 : decode cX4_covers 8 = .ok (.sipush 27720, 3) := by decide +kernel
theorem dX4_covers_11 : decode cX4_covers 11 = .ok (.invokestatic 53, 3) := by decide +kernel
theorem dX4_covers_14 : decode cX4_covers 14 = .ok (.aload_n 0, 1) := by decide +kernel
theorem dX4_covers_15 : decode cX4_covers 15 = .ok (.iload_n 1, 1) := by decide +kernel
theorem dX4_covers_16 : decode cX4_covers 16 = .ok (.iconst 2, 1) := by decide +kernel
theorem dX4_covers_17 : decode cX4_covers 17 = .ok (.invokevirtual 49, 3) := by decide +kernel
theorem dX4_covers_20 : decode cX4_covers 20 = .ok (.if_icmp .ge 7, 3) := by decide +kernel
theorem dX4_covers_23 : decode cX4_covers 23 = .ok (.iconst 1, 1) := by decide +kernel
theorem dX4_covers_24 : decode cX4_covers 24 = .ok (.goto 4, 3) := by decide +kernel
theorem dX4_covers_27 : decode cX4_covers 27 = .ok (.iconst 0, 1) := by decide +kernel
theorem dX4_covers_28 : decode cX4_covers 28 = .ok (.ireturn, 1) := by decide +kernel
theorem dX4_append_0 : decode cX4_append 0 = .ok (.aload_n 0, 1) := by decide +kernel
theorem dX4_append_1 : decode cX4_append 1 = .ok (.getfield 41, 3) := by decide +kernel
theorem dX4_append_4 : decode cX4_append 4 = .ok (.bipush 12, 2) := by decide +kernel
theorem dX4_append_6 : decode cX4_append 6 = .ok (.if_icmp .lt 4, 3) := by decide +kernel
theorem dX4_append_9 : decode cX4_append 9 = .ok (.return_, 1) := by decide +kernel
theorem dX4_append_10 : decode cX4_append 10 = .ok (.aload_n 0, 1) := by decide +kernel
theorem dX4_append_11 : decode cX4_append 11 = .ok (.getfield 41, 3) := by decide +kernel
theorem dX4_append_14 : decode cX4_append 14 = .ok (.iconst 4, 1) := by decide +kernel
theorem dX4_append_15 : decode cX4_append 15 = .ok (.imul, 1) := by decide +kernel
theorem dX4_append_16 : decode cX4_append 16 = .ok (.istore 5, 2) := by decide +kernel
theorem dX4_append_18 : decode cX4_append 18 = .ok (.aload_n 0, 1) := by decide +kernel
theorem dX4_append_19 : decode cX4_append 19 = .ok (.getfield 9, 3) := by decide +kernel
theorem dX4_append_22 : decode cX4_append 22 = .ok (.iload 5, 2) := by decide +kernel
theorem dX4_append_24 : decode cX4_append 24 = .ok (.iconst 0, 1) := by decide +kernel
theorem dX4_append_25 : decode cX4_append 25 = .ok (.iadd, 1) := by decide +kernel
theorem dX4_append_26 : decode cX4_append 26 = .ok (.iload_n 1, 1) := by decide +kernel
theorem dX4_append_27 : decode cX4_append 27 = .ok (.iastore, 1) := by decide +kernel
theorem dX4_append_28 : decode cX4_append 28 = .ok (.aload_n 0, 1) := by decide +kernel
theorem dX4_append_29 : decode cX4_append 29 = .ok (.getfield 9, 3) := by decide +kernel
theorem dX4_append_32 : decode cX4_append 32 = .ok (.iload 5, 2) := by decide +kernel
theorem dX4_append_34 : decode cX4_append 34 = .ok (.iconst 1, 1) := by decide +kernel
theorem dX4_append_35 : decode cX4_append 35 = .ok (.iadd, 1) := by decide +kernel
theorem dX4_append_36 : decode cX4_append 36 = .ok (.iload_n 2, 1) := by decide +kernel
theorem dX4_append_37 : decode cX4_append 37 = .ok (.iastore, 1) := by decide +kernel
theorem dX4_append_38 : decode cX4_append 38 = .ok (.aload_n 0, 1) := by decide +kernel
theorem dX4_append_39 : decode cX4_append 39 = .ok (.getfield 9, 3) := by decide +kernel
theorem dX4_append_42 : decode cX4_append 42 = .ok (.iload 5, 2) := by decide +kernel
theorem dX4_append_44 : decode cX4_append 44 = .ok (.iconst 2, 1) := by decide +kernel
theorem dX4_append_45 : decode cX4_append 45 = .ok (.iadd, 1) := by decide +kernel
theorem dX4_append_46 : decode cX4_append 46 = .ok (.iload_n 3, 1) := by decide +kernel
theorem dX4_append_47 : decode cX4_append 47 = .ok (.iastore, 1) := by decide +kernel
theorem dX4_append_48 : decode cX4_append 48 = .ok (.aload_n 0, 1) := by decide +kernel
theorem dX4_append_49 : decode cX4_append 49 = .ok (.getfield 9, 3) := by decide +kernel
theorem dX4_append_52 : decode cX4_append 52 = .ok (.iload 5, 2) := by decide +kernel
theorem dX4_append_54 : decode cX4_append 54 = .ok (.iconst 3, 1) := by decide +kernel
theorem dX4_append_55 : decode cX4_append 55 = .ok (.iadd, 1) := by decide +kernel
theorem dX4_append_56 : decode cX4_append 56 = .ok (.iload 4, 2) := by decide +kernel
theorem dX4_append_58 : decode cX4_append 58 = .ok (.iastore, 1) := by decide +kernel
theorem dX4_append_59 : decode cX4_append 59 = .ok (.aload_n 0, 1) := by decide +kernel
theorem dX4_append_60 : decode cX4_append 60 = .ok (.dup, 1) := by decide +kernel
theorem dX4_append_61 : decode cX4_append 61 = .ok (.getfield 41, 3) := by decide +kernel
theorem dX4_append_64 : decode cX4_append 64 = .ok (.iconst 1, 1) := by decide +kernel
theorem dX4_append_65 : decode cX4_append 65 = .ok (.iadd, 1) := by decide +kernel
theorem dX4_append_66 : decode cX4_append 66 = .ok (.putfield 41, 3) := by decide +kernel
theorem dX4_append_69 : decode cX4_append 69 = .ok (.return_, 1) := by decide +kernel
set_option maxRecDepth 20000 in
theorem ggX4_appendAll_X4_numberOf : GoodIn wsX4_appendAll wsX4_numberOf := goodIn_r _ [6, 7, 8, 9, 10, 11, 5, 12, 1, 17, 18] (by decide +kernel) (by decide +kernel)
set_option maxRecDepth 20000 in
theorem gX4_appendAll_X4_numberOf : GoodIn wsX4_appendAll (wsV RX4 49 RX4 yX4_numberOf wsX4_numberOf) := goodIn_app (goodIn_of _ (by decide +kernel)) ggX4_appendAll_X4_numberOf
set_option maxRecDepth 20000 in
theorem ggX4_appendAll_X4_append : GoodIn wsX4_appendAll wsX4_append := goodIn_r _ [16, 1, 8, 17, 18] (by decide +kernel) (by decide +kernel)
set_option maxRecDepth 20000 in
theorem gX4_appendAll_X4_append : GoodIn wsX4_appendAll (wsV RX4 58 RX4 yX4_append wsX4_append) := goodIn_app (goodIn_of _ (by decide +kernel)) ggX4_appendAll_X4_append
theorem dX4_appendAll_0 : decode cX4_appendAll 0 = .ok (.iconst 0, 1) := by decide +kernel
theorem dX4_appendAll_1 : decode cX4_appendAll 1 = .ok (.istore_n 2, 1) := by decide +kernel
theorem dX4_appendAll_2 : decode cX4_appendAll 2 = .ok (.iload_n 2, 1) := by decide +kernel
theorem dX4_appendAll_3 : decode cX4_appendAll 3 = .ok (.aload_n 1, 1) := by decide +kernel
theorem dX4_appendAll_4 : decode cX4_appendAll 4 = .ok (.getfield 41, 3) := by decide +kernel
theorem dX4_appendAll_7 : decode cX4_appendAll 7 = .ok (.if_icmp .ge 37, 3) := by decide +kernel
theorem dX4_appendAll_10 : decode cX4_appendAll 10 = .ok (.aload_n 0, 1) := by decide +kernel
theorem dX4_appendAll_11 : decode cX4_appendAll 11 = .ok (.aload_n 1, 1) := by decide +kernel
theorem dX4_appendAll_12 : decode cX4_appendAll 12 = .ok (.iload_n 2, 1) := by decide +kernel
theorem dX4_appendAll_13 : decode cX4_appendAll 13 = .ok (.iconst 0, 1) := by decide +kernel
theorem dX4_appendAll_14 : decode cX4_appendAll 14 = .ok (.invokevirtual 49, 3) := by decide +kernel
theorem dX4_appendAll_17 : decode cX4_appendAll 17 = .ok (.aload_n 1, 1) := by decide +kernel
theorem dX4_appendAll_18 : decode cX4_appendAll 18 = .ok (.iload_n 2, 1) := by decide +kernel
theorem dX4_appendAll_19 : decode cX4_appendAll 19 = .ok (.iconst 1, 1) := by decide +kernel
theorem dX4_appendAll_20 : decode cX4_appendAll 20 = .ok (.invokevirtual 49, 3) := by decide +kernel
theorem dX4_appendAll_23 : decode cX4_appendAll 23 = .ok (.aload_n 1, 1) := by decide +kernel
theorem dX4_appendAll_24 : decode cX4_appendAll 24 = .ok (.iload_n 2, 1) := by decide +kernel
theorem dX4_appendAll_25 : decode cX4_appendAll 25 = .ok (.iconst 2, 1) := by decide +kernel
theorem dX4_appendAll_26 : decode cX4_appendAll 26 = .ok (.invokevirtual 49, 3) := by decide +kernel
theorem dX4_appendAll_29 : decode cX4_appendAll 29 = .ok (.aload_n 1, 1) := by decide +kernel
theorem dX4_appendAll_30 : decode cX4_appendAll 30 = .ok (.iload_n 2, 1) := by decide +kernel
theorem dX4_appendAll_31 : decode cX4_appendAll 31 = .ok (.iconst 3, 1) := by decide +kernel
theorem dX4_appendAll_32 : decode cX4_appendAll 32 = .ok (.invokevirtual 49, 3) := by decide +kernel
theorem dX4_appendAll_35 : decode cX4_appendAll 35 = .ok (.invokevirtual 58, 3) := by decide +kernel
theorem dX4_appendAll_38 : decode cX4_appendAll 38 = .ok (.iinc 2 1, 3) := by decide +kernel
theorem dX4_appendAll_41 : decode cX4_appendAll 41 = .ok (.goto (-39), 3) := by decide +kernel
theorem dX4_appendAll_44 : decode cX4_appendAll 44 = .ok (.return_, 1) := by decide +kernel
set_option maxRecDepth 20000 in
theorem ggX4_takeOut_X4_has : GoodIn wsX4_takeOut wsX4_has := goodIn_r _ [11, 2, 12, 13] (by decide +kernel) (by decide +kernel)
set_option maxRecDepth 20000 in
theorem gX4_takeOut_X4_has : GoodIn wsX4_takeOut (wsV RX4 45 RX4 yX4_has wsX4_has) := goodIn_app (goodIn_of _ (by decide +kernel)) ggX4_takeOut_X4_has
theorem dX4_takeOut_0 : decode cX4_takeOut 0 = .ok (.aload_n 0, 1) := by decide +kernel
theorem dX4_takeOut_1 : decode cX4_takeOut 1 = .ok (.iload_n 1, 1) := by decide +kernel
theorem dX4_takeOut_2 : decode cX4_takeOut 2 = .ok (.invokevirtual 45, 3) := by decide +kernel
theorem dX4_takeOut_5 : decode cX4_takeOut 5 = .ok (.ifCond .ne 4, 3) := by decide +kernel
theorem dX4_takeOut_8 : decode cX4_takeOut 8 = .ok (.return_, 1) := by decide +kernel
theorem dX4_takeOut_9 : decode cX4_takeOut 9 = .ok (.iload_n 1, 1) := by decide +kernel
theorem dX4_takeOut_10 : decode cX4_takeOut 10 = .ok (.iconst 4, 1) := by decide +kernel
theorem dX4_takeOut_11 : decode cX4_takeOut 11 = .ok (.imul, 1) := by decide +kernel
theorem dX4_takeOut_12 : decode cX4_takeOut 12 = .ok (.istore_n 2, 1) := by decide +kernel
theorem dX4_takeOut_13 : decode cX4_takeOut 13 = .ok (.iload_n 2, 1) := by decide +kernel
theorem dX4_takeOut_14 : decode cX4_takeOut 14 = .ok (.iconst 4, 1) := by decide +kernel
theorem dX4_takeOut_15 : decode cX4_takeOut 15 = .ok (.iadd, 1) := by decide +kernel
theorem dX4_takeOut_16 : decode cX4_takeOut 16 = .ok (.istore_n 3, 1) := by decide +kernel
theorem dX4_takeOut_17 : decode cX4_takeOut 17 = .ok (.aload_n 0, 1) := by decide +kernel
theorem dX4_takeOut_18 : decode cX4_takeOut 18 = .ok (.getfield 9, 3) := by decide +kernel
theorem dX4_takeOut_21 : decode cX4_takeOut 21 = .ok (.iload_n 3, 1) := by decide +kernel
theorem dX4_takeOut_22 : decode cX4_takeOut 22 = .ok (.aload_n 0, 1) := by decide +kernel
theorem dX4_takeOut_23 : decode cX4_takeOut 23 = .ok (.getfield 9, 3) := by decide +kernel
theorem dX4_takeOut_26 : decode cX4_takeOut 26 = .ok (.iload_n 2, 1) := by decide +kernel
theorem dX4_takeOut_27 : decode cX4_takeOut 27 = .ok (.aload_n 0, 1) := by decide +kernel
theorem dX4_takeOut_28 : decode cX4_takeOut 28 = .ok (.getfield 41, 3) := by decide +kernel
theorem dX4_takeOut_31 : decode cX4_takeOut 31 = .ok (.iconst 4, 1) := by decide +kernel
theorem dX4_takeOut_32 : decode cX4_takeOut 32 = .ok (.imul, 1) := by decide +kernel
theorem dX4_takeOut_33 : decode cX4_takeOut 33 = .ok (.iload_n 3, 1) := by decide +kernel
theorem dX4_takeOut_34 : decode cX4_takeOut 34 = .ok (.isub, 1) := by decide +kernel
theorem dX4_takeOut_35 : decode cX4_takeOut 35 = .ok (.invokestatic 62, 3) := by decide +kernel
theorem dX4_takeOut_38 : decode cX4_takeOut 38 = .ok (.aload_n 0, 1) := by decide +kernel
theorem dX4_takeOut_39 : decode cX4_takeOut 39 = .ok (.dup, 1) := by decide +kernel
theorem dX4_takeOut_40 : decode cX4_takeOut 40 = .ok (.getfield 41, 3) := by decide +kernel
theorem dX4_takeOut_43 : decode cX4_takeOut 43 = .ok (.iconst 1, 1) := by decide +kernel
theorem dX4_takeOut_44 : decode cX4_takeOut 44 = .ok (.isub, 1) := by decide +kernel
theorem dX4_takeOut_45 : decode cX4_takeOut 45 = .ok (.putfield 41, 3) := by decide +kernel
theorem dX4_takeOut_48 : decode cX4_takeOut 48 = .ok (.return_, 1) := by decide +kernel
theorem dX4_copyFrom_0 : decode cX4_copyFrom 0 = .ok (.aload_n 1, 1) := by decide +kernel
theorem dX4_copyFrom_1 : decode cX4_copyFrom 1 = .ok (.getfield 9, 3) := by decide +kernel
theorem dX4_copyFrom_4 : decode cX4_copyFrom 4 = .ok (.iconst 0, 1) := by decide +kernel
theorem dX4_copyFrom_5 : decode cX4_copyFrom 5 = .ok (.aload_n 0, 1) := by decide +kernel
theorem dX4_copyFrom_6 : decode cX4_copyFrom 6 = .ok (.getfield 9, 3) := by decide +kernel
theorem dX4_copyFrom_9 : decode cX4_copyFrom 9 = .ok (.iconst 0, 1) := by decide +kernel
theorem dX4_copyFrom_10 : decode cX4_copyFrom 10 = .ok (.aload_n 1, 1) := by decide +kernel
theorem dX4_copyFrom_11 : decode cX4_copyFrom 11 = .ok (.getfield 41, 3) := by decide +kernel
theorem dX4_copyFrom_14 : decode cX4_copyFrom 14 = .ok (.iconst 4, 1) := by decide +kernel
theorem dX4_copyFrom_15 : decode cX4_copyFrom 15 = .ok (.imul, 1) := by decide +kernel
theorem dX4_copyFrom_16 : decode cX4_copyFrom 16 = .ok (.invokestatic 62, 3) := by decide +kernel
theorem dX4_copyFrom_19 : decode cX4_copyFrom 19 = .ok (.aload_n 0, 1) := by decide +kernel
theorem dX4_copyFrom_20 : decode cX4_copyFrom 20 = .ok (.aload_n 1, 1) := by decide +kernel
theorem dX4_copyFrom_21 : decode cX4_copyFrom 21 = .ok (.getfield 41, 3) := by decide +kernel
theorem dX4_copyFrom_24 : decode cX4_copyFrom 24 = .ok (.putfield 41, 3) := by decide +kernel
theorem dX4_copyFrom_27 : decode cX4_copyFrom 27 = .ok (.return_, 1) := by decide +kernel
theorem dX5_init_0 : decode cX5_init 0 = .ok (.aload_n 0, 1) := by decide +kernel
theorem dX5_init_1 : decode cX5_init 1 = .ok (.invokespecial 3, 3) := by decide +kernel
theorem dX5_init_4 : decode cX5_init 4 = .ok (.aload_n 0, 1) := by decide +kernel
theorem dX5_init_5 : decode cX5_init 5 = .ok (.sipush 201, 3) := by decide +kernel
theorem dX5_init_8 : decode cX5_init 8 = .ok (.newarray .int, 2) := by decide +kernel
theorem dX5_init_10 : decode cX5_init 10 = .ok (.putfield 9, 3) := by decide +kernel
theorem dX5_init_13 : decode cX5_init 13 = .ok (.return_, 1) := by decide +kernel
set_option maxRecDepth 20000 in
theorem ggX5_startAt_X5_goTo : GoodIn wsX5_startAt wsX5_goTo := goodIn_r _ [6, 1, 7, 8, 9] (by decide +kernel) (by decide +kernel)
set_option maxRecDepth 20000 in
theorem gX5_startAt_X5_goTo : GoodIn wsX5_startAt (wsV RX5 19 RX5 yX5_goTo wsX5_goTo) := goodIn_app (goodIn_of _ (by decide +kernel)) ggX5_startAt_X5_goTo
theorem dX5_startAt_0 : decode cX5_startAt 0 = .ok (.aload_n 0, 1) := by decide +kernel
theorem dX5_startAt_1 : decode cX5_startAt 1 = .ok (.iconst 0, 1) := by decide +kernel
theorem dX5_startAt_2 : decode cX5_startAt 2 = .ok (.putfield 15, 3) := by decide +kernel
theorem dX5_startAt_5 : decode cX5_startAt 5 = .ok (.aload_n 0, 1) := by decide +kernel
theorem dX5_startAt_6 : decode cX5_startAt 6 = .ok (.iload_n 1, 1) := by decide +kernel
theorem dX5_startAt_7 : decode cX5_startAt 7 = .ok (.invokevirtual 19, 3) := by decide +kernel
theorem dX5_startAt_10 : decode cX5_startAt 10 = .ok (.return_, 1) := by decide +kernel
theorem dX5_goTo_0 : decode cX5_goTo 0 = .ok (.aload_n 0, 1) := by decide +kernel
theorem dX5_goTo_1 : decode cX5_goTo 1 = .ok (.getfield 15, 3) := by decide +kernel
theorem dX5_goTo_4 : decode cX5_goTo 4 = .ok (.aload_n 0, 1) := by decide +kernel
theorem dX5_goTo_5 : decode cX5_goTo 5 = .ok (.getfield 9, 3) := by decide +kernel
theorem dX5_goTo_8 : decode cX5_goTo 8 = .ok (.arraylength, 1) := by decide +kernel
theorem dX5_goTo_9 : decode cX5_goTo 9 = .ok (.if_icmp .ge 23, 3) := by decide +kernel
theorem dX5_goTo_12 : decode cX5_goTo 12 = .ok (.aload_n 0, 1) := by decide +kernel
theorem dX5_goTo_13 : decode cX5_goTo 13 = .ok (.getfield 9, 3) := by decide +kernel
theorem dX5_goTo_16 : decode cX5_goTo 16 = .ok (.aload_n 0, 1) := by decide +kernel
theorem dX5_goTo_17 : decode cX5_goTo 17 = .ok (.getfield 15, 3) := by decide +kernel
theorem dX5_goTo_20 : decode cX5_goTo 20 = .ok (.iload_n 1, 1) := by decide +kernel
theorem dX5_goTo_21 : decode cX5_goTo 21 = .ok (.iastore, 1) := by decide +kernel
theorem dX5_goTo_22 : decode cX5_goTo 22 = .ok (.aload_n 0, 1) := by decide +kernel
theorem dX5_goTo_23 : decode cX5_goTo 23 = .ok (.dup, 1) := by decide +kernel
theorem dX5_goTo_24 : decode cX5_goTo 24 = .ok (.getfield 15, 3) := by decide +kernel
theorem dX5_goTo_27 : decode cX5_goTo 27 = .ok (.iconst 1, 1) := by decide +kernel
theorem dX5_goTo_28 : decode cX5_goTo 28 = .ok (.iadd, 1) := by decide +kernel
theorem dX5_goTo_29 : decode cX5_goTo 29 = .ok (.putfield 15, 3) := by decide +kernel
theorem dX5_goTo_32 : decode cX5_goTo 32 = .ok (.return_, 1) := by decide +kernel
set_option maxRecDepth 20000 in
theorem ggX5_crossingPairs_X5_cross : GoodIn wsX5_crossingPairs wsX5_cross := goodIn_r _ [10, 2, 3, 4, 5, 11, 12, 13, 14, 15, 9, 16, 17, 18, 19] (by decide +kernel) (by decide +kernel)
set_option maxRecDepth 20000 in
theorem gX5_crossingPairs_X5_cross : GoodIn wsX5_crossingPairs (va_wsS RX5 29 yX5_cross wsX5_cross) := goodIn_app (goodIn_of _ (by decide +kernel)) ggX5_crossingPairs_X5_cross
theorem dX5_crossingPairs_0 : decode cX5_crossingPairs 0 = .ok (.iload_n 1, 1) := by decide +kernel
theorem dX5_crossingPairs_1 : decode cX5_crossingPairs 1 = .ok (.iconst 1, 1) := by decide +kernel
theorem dX5_crossingPairs_2 : decode cX5_crossingPairs 2 = .ok (.iadd, 1) := by decide +kernel
theorem dX5_crossingPairs_3 : decode cX5_crossingPairs 3 = .ok (.aload_n 0, 1) := by decide +kernel
theorem dX5_crossingPairs_4 : decode cX5_crossingPairs 4 = .ok (.getfield 15, 3) := by decide +kernel
theorem dX5_crossingPairs_7 : decode cX5_crossingPairs 7 = .ok (.invokestatic 23, 3) := by decide +kernel
theorem dX5_crossingPairs_10 : decode cX5_crossingPairs 10 = .ok (.istore_n 2, 1) := by decide +kernel
theorem dX5_crossingPairs_11 : decode cX5_crossingPairs 11 = .ok (.iconst 0, 1) := by decide +kernel
theorem dX5_crossingPairs_12 : decode cX5_crossingPairs 12 = .ok (.istore_n 3, 1) := by decide +kernel
theorem dX5_crossingPairs_13 : decode cX5_crossingPairs 13 = .ok (.iconst 1, 1) := by decide +kernel
theorem dX5_crossingPairs_14 : decode cX5_crossingPairs 14 = .ok (.istore 4, 2) := by decide +kernel
theorem dX5_crossingPairs_16 : decode cX5_crossingPairs 16 = .ok (.iload 4, 2) := by decide +kernel
theorem dX5_crossingPairs_18 : decode cX5_crossingPairs 18 = .ok (.iload_n 2, 1) := by decide +kernel
theorem dX5_crossingPairs_19 : decode cX5_crossingPairs 19 = .ok (.if_icmp .ge 68, 3) := by decide +kernel
theorem dX5_crossingPairs_22 : decode cX5_crossingPairs 22 = .ok (.iload 4, 2) := by decide +kernel
theorem dX5_crossingPairs_24 : decode cX5_crossingPairs 24 = .ok (.iconst 1, 1) := by decide +kernel
theorem dX5_crossingPairs_25 : decode cX5_crossingPairs 25 = .ok (.iadd, 1) := by decide +kernel
theorem dX5_crossingPairs_26 : decode cX5_crossingPairs 26 = .ok (.istore 5, 2) := by decide +kernel
theorem dX5_crossingPairs_28 : decode cX5_crossingPairs 28 = .ok (.iload 5, 2) := by decide +kernel
theorem dX5_crossingPairs_30 : decode cX5_crossingPairs 30 = .ok (.iload_n 2, 1) := by decide +kernel
theorem dX5_crossingPairs_31 : decode cX5_crossingPairs 31 = .ok (.if_icmp .ge 50, 3) := by decide +kernel
theorem dX5_crossingPairs_34 : decode cX5_crossingPairs 34 = .ok (.aload_n 0, 1) := by decide +kernel
theorem dX5_crossingPairs_35 : decode cX5_crossingPairs 35 = .ok (.getfield 9, 3) := by decide +kernel
theorem dX5_crossingPairs_38 : decode cX5_crossingPairs 38 = .ok (.iload 4, 2) := by decide +kernel
theorem dX5_crossingPairs_40 : decode cX5_crossingPairs 40 = .ok (.iconst 1, 1) := by decide +kernel
theorem dX5_crossingPairs_41 : decode cX5_crossingPairs 41 = .ok (.isub, 1) := by decide +kernel
theorem dX5_crossingPairs_42 : decode cX5_crossingPairs 42 = .ok (.iaload, 1) := by decide +kernel
theorem dX5_crossingPairs_43 : decode cX5_crossingPairs 43 = .ok (.aload_n 0, 1) := by decide +kernel
theorem dX5_crossingPairs_44 : decode cX5_crossingPairs 44 = .ok (.getfield 9, 3) := by decide +kernel
theorem dX5_crossingPairs_47 : decode cX5_crossingPairs 47 = .ok (.iload 4, 2) := by decide +kernel
theorem dX5_crossingPairs_49 : decode cX5_crossingPairs 49 = .ok (.iaload, 1) := by decide +kernel
theorem dX5_crossingPairs_50 : decode cX5_crossingPairs 50 = .ok (.aload_n 0, 1) := by decide +kernel
theorem dX5_crossingPairs_51 : decode cX5_crossingPairs 51 = .ok (.getfield 9, 3) := by decide +kernel
theorem dX5_crossingPairs_54 : decode cX5_crossingPairs 54 = .ok (.iload 5, 2) := by decide +kernel
theorem dX5_crossingPairs_56 : decode cX5_crossingPairs 56 = .ok (.iconst 1, 1) := by decide +kernel
theorem dX5_crossingPairs_57 : decode cX5_crossingPairs 57 = .ok (.isub, 1) := by decide +kernel
theorem dX5_crossingPairs_58 : decode cX5_crossingPairs 58 = .ok (.iaload, 1) := by decide +kernel
theorem dX5_crossingPairs_59 : decode cX5_crossingPairs 59 = .ok (.aload_n 0, 1) := by decide +kernel
theorem dX5_crossingPairs_60 : decode cX5_crossingPairs 60 = .ok (.getfield 9, 3) := by decide +kernel
theorem dX5_crossingPairs_63 : decode cX5_crossingPairs 63 = .ok (.iload 5, 2) := by decide +kernel
theorem dX5_crossingPairs_65 : decode cX5_crossingPairs 65 = .ok (.iaload, 1) := by decide +kernel
theorem dX5_crossingPairs_66 : decode cX5_crossingPairs 66 = .ok (.invokestatic 29, 3) := by decide +kernel
theorem dX5_crossingPairs_69 : decode cX5_crossingPairs 69 = .ok (.ifCond .eq 6, 3) := by decide +kernel
theorem dX5_crossingPairs_72 : decode cX5_crossingPairs 72 = .ok (.iinc 3 1, 3) := by decide +kernel
theorem dX5_crossingPairs_75 : decode cX5_crossingPairs 75 = .ok (.iinc 5 1, 3) := by decide +kernel
theorem dX5_crossingPairs_78 : decode cX5_crossingPairs 78 = .ok (.goto (-50), 3) := by decide +kernel
theorem dX5_crossingPairs_81 : decode cX5_crossingPairs 81 = .ok (.iinc 4 1, 3) := by decide +kernel
theorem dX5_crossingPairs_84 : decode cX5_crossingPairs 84 = .ok (.goto (-68), 3) := by decide +kernel
theorem dX5_crossingPairs_87 : decode cX5_crossingPairs 87 = .ok (.iload_n 3, 1) := by decide +kernel
theorem dX5_crossingPairs_88 : decode cX5_crossingPairs 88 = .ok (.ireturn, 1) := by decide +kernel
set_option maxRecDepth 20000 in
theorem ggX5_cross_X5_isBetween : GoodIn wsX5_cross wsX5_isBetween := goodIn_r _ [11] (by decide +kernel) (by decide +kernel)
set_option maxRecDepth 20000 in
theorem gX5_cross_X5_isBetween : GoodIn wsX5_cross (va_wsS RX5 36 yX5_isBetween wsX5_isBetween) := goodIn_app (goodIn_of _ (by decide +kernel)) ggX5_cross_X5_isBetween
set_option maxRecDepth 20000 in
theorem ggX5_cross_X5_isBeyond : GoodIn wsX5_cross wsX5_isBeyond := goodIn_r _ [14] (by decide +kernel) (by decide +kernel)
set_option maxRecDepth 20000 in
theorem gX5_cross_X5_isBeyond : GoodIn wsX5_cross (va_wsS RX5 40 yX5_isBeyond wsX5_isBeyond) := goodIn_app (goodIn_of _ (by decide +kernel)) ggX5_cross_X5_isBeyond
theorem dX5_cross_0 : decode cX5_cross 0 = .ok (.iload_n 0, 1) := by decide +kernel
theorem dX5_cross_1 : decode cX5_cross 1 = .ok (.iload_n 1, 1) := by decide +kernel
theorem dX5_cross_2 : decode cX5_cross 2 = .ok (.invokestatic 23, 3) := by decide +kernel
theorem dX5_cross_5 : decode cX5_cross 5 = .ok (.istore 4, 2) := by decide +kernel
theorem dX5_cross_7 : decode cX5_cross 7 = .ok (.iload_n 0, 1) := by decide +kernel
theorem dX5_cross_8 : decode cX5_cross 8 = .ok (.iload_n 1, 1) := by decide +kernel
theorem dX5_cross_9 : decode cX5_cross 9 = .ok (.invokestatic 33, 3) := by decide +kernel
theorem dX5_cross_12 : decode cX5_cross 12 = .ok (.istore 5, 2) := by decide +kernel
theorem dX5_cross_14 : decode cX5_cross 14 = .ok (.iload 4, 2) := by decide +kernel
theorem dX5_cross_16 : decode cX5_cross 16 = .ok (.iload_n 2, 1) := by decide +kernel
theorem dX5_cross_17 : decode cX5_cross 17 = .ok (.iload 5, 2) := by decide +kernel
theorem dX5_cross_19 : decode cX5_cross 19 = .ok (.invokestatic 36, 3) := by decide +kernel
theorem dX5_cross_22 : decode cX5_cross 22 = .ok (.ifCond .eq 14, 3) := by decide +kernel
theorem dX5_cross_25 : decode cX5_cross 25 = .ok (.iload 4, 2) := by decide +kernel
theorem dX5_cross_27 : decode cX5_cross 27 = .ok (.iload_n 3, 1) := by decide +kernel
theorem dX5_cross_28 : decode cX5_cross 28 = .ok (.iload 5, 2) := by decide +kernel
theorem dX5_cross_30 : decode cX5_cross 30 = .ok (.invokestatic 40, 3) := by decide +kernel
theorem dX5_cross_33 : decode cX5_cross 33 = .ok (.ifCond .ne 25, 3) := by decide +kernel
theorem dX5_cross_36 : decode cX5_cross 36 = .ok (.iload 4, 2) := by decide +kernel
theorem dX5_cross_38 : decode cX5_cross 38 = .ok (.iload_n 2, 1) := by decide +kernel
theorem dX5_cross_39 : decode cX5_cross 39 = .ok (.iload 5, 2) := by decide +kernel
theorem dX5_cross_41 : decode cX5_cross 41 = .ok (.invokestatic 40, 3) := by decide +kernel
theorem dX5_cross_44 : decode cX5_cross 44 = .ok (.ifCond .eq 18, 3) := by decide +kernel
theorem dX5_cross_47 : decode cX5_cross 47 = .ok (.iload 4, 2) := by decide +kernel
theorem dX5_cross_49 : decode cX5_cross 49 = .ok (.iload_n 3, 1) := by decide +kernel
theorem dX5_cross_50 : decode cX5_cross 50 = .ok (.iload 5, 2) := by decide +kernel
theorem dX5_cross_52 : decode cX5_cross 52 = .ok (.invokestatic 36, 3) := by decide +kernel
theorem dX5_cross_55 : decode cX5_cross 55 = .ok (.ifCond .eq 7, 3) := by decide +kernel
theorem dX5_cross_58 : decode cX5_cross 58 = .ok (.iconst 1, 1) := by decide +kernel
theorem dX5_cross_59 : decode cX5_cross 59 = .ok (.goto 4, 3) := by decide +kernel
theorem dX5_cross_62 : decode cX5_cross 62 = .ok (.iconst 0, 1) := by decide +kernel
theorem dX5_cross_63 : decode cX5_cross 63 = .ok (.ireturn, 1) := by decide +kernel
theorem dX5_isBetween_0 : decode cX5_isBetween 0 = .ok (.iload_n 0, 1) := by decide +kernel
theorem dX5_isBetween_1 : decode cX5_isBetween 1 = .ok (.iload_n 1, 1) := by decide +kernel
theorem dX5_isBetween_2 : decode cX5_isBetween 2 = .ok (.if_icmp .ge 12, 3) := by decide +kernel
theorem dX5_isBetween_5 : decode cX5_isBetween 5 = .ok (.iload_n 1, 1) := by decide +kernel
theorem dX5_isBetween_6 : decode cX5_isBetween 6 = .ok (.iload_n 2, 1) := by decide +kernel
theorem dX5_isBetween_7 : decode cX5_isBetween 7 = .ok (.if_icmp .ge 7, 3) := by decide +kernel
theorem dX5_isBetween_10 : decode cX5_isBetween 10 = .ok (.iconst 1, 1) := by decide +kernel
theorem dX5_isBetween_11 : decode cX5_isBetween 11 = .ok (.goto 4, 3) := by decide +kernel
theorem dX5_isBetween_14 : decode cX5_isBetween 14 = .ok (.iconst 0, 1) := by decide +kernel
theorem dX5_isBetween_15 : decode cX5_isBetween 15 = .ok (.ireturn, 1) := by decide +kernel
theorem dX5_isBeyond_0 : decode cX5_isBeyond 0 = .ok (.iload_n 1, 1) := by decide +kernel
theorem dX5_isBeyond_1 : decode cX5_isBeyond 1 = .ok (.iload_n 0, 1) := by decide +kernel
theorem dX5_isBeyond_2 : decode cX5_isBeyond 2 = .ok (.if_icmp .lt 8, 3) := by decide +kernel
theorem dX5_isBeyond_5 : decode cX5_isBeyond 5 = .ok (.iload_n 1, 1) := by decide +kernel
theorem dX5_isBeyond_6 : decode cX5_isBeyond 6 = .ok (.iload_n 2, 1) := by decide +kernel
theorem dX5_isBeyond_7 : decode cX5_isBeyond 7 = .ok (.if_icmp .le 7, 3) := by decide +kernel
theorem dX5_isBeyond_10 : decode cX5_isBeyond 10 = .ok (.iconst 1, 1) := by decide +kernel
theorem dX5_isBeyond_11 : decode cX5_isBeyond 11 = .ok (.goto 4, 3) := by decide +kernel
theorem dX5_isBeyond_14 : decode cX5_isBeyond 14 = .ok (.iconst 0, 1) := by decide +kernel
theorem dX5_isBeyond_15 : decode cX5_isBeyond 15 = .ok (.ireturn, 1) := by decide +kernel
theorem dX6_init_0 : decode cX6_init 0 = .ok (.aload_n 0, 1) := by decide +kernel
theorem dX6_init_1 : decode cX6_init 1 = .ok (.invokespecial 3, 3) := by decide +kernel
theorem dX6_init_4 : decode cX6_init 4 = .ok (.aload_n 0, 1) := by decide +kernel
theorem dX6_init_5 : decode cX6_init 5 = .ok (.sipush 434, 3) := by decide +kernel
theorem dX6_init_8 : decode cX6_init 8 = .ok (.newarray .long, 2) := by decide +kernel
theorem dX6_init_10 : decode cX6_init 10 = .ok (.putfield 9, 3) := by decide +kernel
theorem dX6_init_13 : decode cX6_init 13 = .ok (.return_, 1) := by decide +kernel
theorem dX6_forget_0 : decode cX6_forget 0 = .ok (.iconst 0, 1) := by decide +kernel
theorem dX6_forget_1 : decode cX6_forget 1 = .ok (.istore_n 1, 1) := by decide +kernel
theorem dX6_forget_2 : decode cX6_forget 2 = .ok (.iload_n 1, 1) := by decide +kernel
theorem dX6_forget_3 : decode cX6_forget 3 = .ok (.aload_n 0, 1) := by decide +kernel
theorem dX6_forget_4 : decode cX6_forget 4 = .ok (.getfield 9, 3) := by decide +kernel
theorem dX6_forget_7 : decode cX6_forget 7 = .ok (.arraylength, 1) := by decide +kernel
theorem dX6_forget_8 : decode cX6_forget 8 = .ok (.if_icmp .ge 16, 3) := by decide +kernel
theorem dX6_forget_11 : decode cX6_forget 11 = .ok (.aload_n 0, 1) := by decide +kernel
theorem dX6_forget_12 : decode cX6_forget 12 = .ok (.getfield 9, 3) := by decide +kernel
theorem dX6_forget_15 : decode cX6_forget 15 = .ok (.iload_n 1, 1) := by decide +kernel
theorem dX6_forget_16 : decode cX6_forget 16 = .ok (.lconst 0, 1) := by decide +kernel
theorem dX6_forget_17 : decode cX6_forget 17 = .ok (.lastore, 1) := by decide +kernel
theorem dX6_forget_18 : decode cX6_forget 18 = .ok (.iinc 1 1, 3) := by decide +kernel
theorem dX6_forget_21 : decode cX6_forget 21 = .ok (.goto (-19), 3) := by decide +kernel
theorem dX6_forget_24 : decode cX6_forget 24 = .ok (.aload_n 0, 1) := by decide +kernel
theorem dX6_forget_25 : decode cX6_forget 25 = .ok (.iconst 0, 1) := by decide +kernel
theorem dX6_forget_26 : decode cX6_forget 26 = .ok (.putfield 15, 3) := by decide +kernel
theorem dX6_forget_29 : decode cX6_forget 29 = .ok (.return_, 1) := by decide +kernel
set_option maxRecDepth 20000 in
theorem ggX6_mark_X0_isPlace : GoodIn wsX6_mark wsX0_isPlace := goodIn_r _ [6] (by decide +kernel) (by decide +kernel)
set_option maxRecDepth 20000 in
theorem gX6_mark_X0_isPlace : GoodIn wsX6_mark (va_wsS RX6 19 yX0_isPlace wsX0_isPlace) := goodIn_app (goodIn_of _ (by decide +kernel)) ggX6_mark_X0_isPlace
theorem dX6_mark_0 : decode cX6_mark 0 = .ok (.iload_n 1, 1) := by decide +kernel
theorem dX6_mark_1 : decode cX6_mark 1 = .ok (.invokestatic 19, 3) := by decide +kernel
theorem dX6_mark_4 : decode cX6_mark 4 = .ok (.ifCond .ne 4, 3) := by decide +kernel
theorem dX6_mark_7 : decode cX6_mark 7 = .ok (.return_, 1) := by decide +kernel
theorem dX6_mark_8 : decode cX6_mark 8 = .ok (.lconst 1, 1) := by decide +kernel
theorem dX6_mark_9 : decode cX6_mark 9 = .ok (.iload_n 1, 1) := by decide +kernel
theorem dX6_mark_10 : decode cX6_mark 10 = .ok (.bipush 64, 2) := by decide +kernel
theorem dX6_mark_12 : decode cX6_mark 12 = .ok (.irem, 1) := by decide +kernel
theorem dX6_mark_13 : decode cX6_mark 13 = .ok (.lshl, 1) := by decide +kernel
theorem dX6_mark_14 : decode cX6_mark 14 = .ok (.lstore_n 2, 1) := by decide +kernel
theorem dX6_mark_15 : decode cX6_mark 15 = .ok (.aload_n 0, 1) := by decide +kernel
theorem dX6_mark_16 : decode cX6_mark 16 = .ok (.getfield 9, 3) := by decide +kernel
theorem dX6_mark_19 : decode cX6_mark 19 = .ok (.iload_n 1, 1) := by decide +kernel
theorem dX6_mark_20 : decode cX6_mark 20 = .ok (.bipush 64, 2) := by decide +kernel
theorem dX6_mark_22 : decode cX6_mark 22 = .ok (.idiv, 1) := by decide +kernel
theorem dX6_mark_23 : decode cX6_mark 23 = .ok (.laload, 1) := by decide +kernel
theorem dX6_mark_24 : decode cX6_mark 24 = .ok (.lload_n 2, 1) := by decide +kernel
theorem dX6_mark_25 : decode cX6_mark 25 = .ok (.land, 1) := by decide +kernel
theorem dX6_mark_26 : decode cX6_mark 26 = .ok (.lconst 0, 1) := by decide +kernel
theorem dX6_mark_27 : decode cX6_mark 27 = .ok (.lcmp, 1) := by decide +kernel
theorem dX6_mark_28 : decode cX6_mark 28 = .ok (.ifCond .ne 26, 3) := by decide +kernel
theorem dX6_mark_31 : decode cX6_mark 31 = .ok (.aload_n 0, 1) := by decide +kernel
theorem dX6_mark_32 : decode cX6_mark 32 = .ok (.getfield 9, 3) := by decide +kernel
theorem dX6_mark_35 : decode cX6_mark 35 = .ok (.iload_n 1, 1) := by decide +kernel
theorem dX6_mark_36 : decode cX6_mark 36 = .ok (.bipush 64, 2) := by decide +kernel
theorem dX6_mark_38 : decode cX6_mark 38 = .ok (.idiv, 1) := by decide +kernel
theorem dX6_mark_39 : decode cX6_mark 39 = .ok (.dup2, 1) := by decide +kernel
theorem dX6_mark_40 : decode cX6_mark 40 = .ok (.laload, 1) := by decide +kernel
theorem dX6_mark_41 : decode cX6_mark 41 = .ok (.lload_n 2, 1) := by decide +kernel
theorem dX6_mark_42 : decode cX6_mark 42 = .ok (.lor, 1) := by decide +kernel
theorem dX6_mark_43 : decode cX6_mark 43 = .ok (.lastore, 1) := by decide +kernel
theorem dX6_mark_44 : decode cX6_mark 44 = .ok (.aload_n 0, 1) := by decide +kernel
theorem dX6_mark_45 : decode cX6_mark 45 = .ok (.dup, 1) := by decide +kernel
theorem dX6_mark_46 : decode cX6_mark 46 = .ok (.getfield 15, 3) := by decide +kernel
theorem dX6_mark_49 : decode cX6_mark 49 = .ok (.iconst 1, 1) := by decide +kernel
theorem dX6_mark_50 : decode cX6_mark 50 = .ok (.iadd, 1) := by decide +kernel
theorem dX6_mark_51 : decode cX6_mark 51 = .ok (.putfield 15, 3) := by decide +kernel
theorem dX6_mark_54 : decode cX6_mark 54 = .ok (.return_, 1) := by decide +kernel
set_option maxRecDepth 20000 in
theorem ggX6_lowestBit_J13_bitCount_95d88 : GoodIn wsX6_lowestBit wsJ13_bitCount_95d88 := goodIn_r _ [4, 5, 6, 7] (by decide +kernel) (by decide +kernel)
set_option maxRecDepth 20000 in
theorem gX6_lowestBit_J13_bitCount_95d88 : GoodIn wsX6_lowestBit (va_wsS RX6 25 yJ13_bitCount_95d88 wsJ13_bitCount_95d88) := goodIn_app (goodIn_of _ (by decide +kernel)) ggX6_lowestBit_J13_bitCount_95d88
theorem dX6_lowestBit_0 : decode cX6_lowestBit 0 = .ok (.lload_n 0, 1) := by decide +kernel
theorem dX6_lowestBit_1 : decode cX6_lowestBit 1 = .ok (.lload_n 0, 1) := by decide +kernel
theorem dX6_lowestBit_2 : decode cX6_lowestBit 2 = .ok (.lneg, 1) := by decide +kernel
theorem dX6_lowestBit_3 : decode cX6_lowestBit 3 = .ok (.land, 1) := by decide +kernel
theorem dX6_lowestBit_4 : decode cX6_lowestBit 4 = .ok (.lconst 1, 1) := by decide +kernel
theorem dX6_lowestBit_5 : decode cX6_lowestBit 5 = .ok (.lsub, 1) := by decide +kernel
theorem dX6_lowestBit_6 : decode cX6_lowestBit 6 = .ok (.invokestatic 25, 3) := by decide +kernel
theorem dX6_lowestBit_9 : decode cX6_lowestBit 9 = .ok (.ireturn, 1) := by decide +kernel
set_option maxRecDepth 20000 in
theorem ggX6_longestGap_X6_lowestBit : GoodIn wsX6_longestGap wsX6_lowestBit := goodIn_r _ [10, 11, 12, 13, 14, 15, 16, 17] (by decide +kernel) (by decide +kernel)
set_option maxRecDepth 20000 in
theorem gX6_longestGap_X6_lowestBit : GoodIn wsX6_longestGap (va_wsS RX6 31 yX6_lowestBit wsX6_lowestBit) := goodIn_app (goodIn_of _ (by decide +kernel)) ggX6_longestGap_X6_lowestBit
theorem dX6_longestGap_0 : decode cX6_longestGap 0 = .ok (.aload_n 0, 1) := by decide +kernel
theorem dX6_longestGap_1 : decode cX6_longestGap 1 = .ok (.getfield 15, 3) := by decide +kernel
theorem dX6_longestGap_4 : decode cX6_longestGap 4 = .ok (.ifCond .ne 7, 3) := by decide +kernel
theorem dX6_longestGap_7 : decode cX6_longestGap 7 = .ok (.sipush 27720, 3) := by decide +kernel
theorem dX6_longestGap_10 : decode cX6_longestGap 10 = .ok (.ireturn, 1) := by decide +kernel
theorem dX6_longestGap_11 : decode cX6_longestGap 11 = .ok (.iconst 0, 1) := by decide +kernel
theorem dX6_longestGap_12 : decode cX6_longestGap 12 = .ok (.istore_n 1, 1) := by decide +kernel
theorem dX6_longestGap_13 : decode cX6_longestGap 13 = .ok (.iconst (-1), 1) := by decide +kernel
theorem dX6_longestGap_14 : decode cX6_longestGap 14 = .ok (.istore_n 2, 1) := by decide +kernel
theorem dX6_longestGap_15 : decode cX6_longestGap 15 = .ok (.iconst (-1), 1) := by decide +kernel
theorem dX6_longestGap_16 : decode cX6_longestGap 16 = .ok (.istore_n 3, 1) := by decide +kernel
theorem dX6_longestGap_17 : decode cX6_longestGap 17 = .ok (.iconst 0, 1) := by decide +kernel
theorem dX6_longestGap_18 : decode cX6_longestGap 18 = .ok (.istore 4, 2) := by decide +kernel
theorem dX6_longestGap_20 : decode cX6_longestGap 20 = .ok (.iload 4, 2) := by decide +kernel
theorem dX6_longestGap_22 : decode cX6_longestGap 22 = .ok (.aload_n 0, 1) := by decide +kernel
theorem dX6_longestGap_23 : decode cX6_longestGap 23 = .ok (.getfield 9, 3) := by decide +kernel
theorem dX6_longestGap_26 : decode cX6_longestGap 26 = .ok (.arraylength, 1) := by decide +kernel
theorem dX6_longestGap_27 : decode cX6_longestGap 27 = .ok (.if_icmp .ge 84, 3) := by decide +kernel
theorem dX6_longestGap_30 : decode cX6_longestGap 30 = .ok (.aload_n 0, 1) := by decide +kernel
theorem dX6_longestGap_31 : decode cX6_longestGap 31 = .ok (.getfield 9, 3) := by decide +kernel
theorem dX6_longestGap_34 : decode cX6_longestGap 34 = .ok (.iload 4, 2) := by decide +kernel
theorem dX6_longestGap_36 : decode cX6_longestGap 36 = .ok (.laload, 1) := by decide +kernel
theorem dX6_longestGap_37 : decode cX6_longestGap 37 = .ok (.lstore 5, 2) := by decide +kernel
theorem dX6_longestGap_39 : decode cX6_longestGap 39 = .ok (.iconst 0, 1) := by decide +kernel
theorem dX6_longestGap_40 : decode cX6_longestGap 40 = .ok (.istore 7, 2) := by decide +kernel
theorem dX6_longestGap_42 : decode cX6_longestGap 42 = .ok (.iload 7, 2) := by decide +kernel
theorem dX6_longestGap_44 : decode cX6_longestGap 44 = .ok (.bipush 64, 2) := by decide +kernel
theorem dX6_longestGap_46 : decode cX6_longestGap 46 = .ok (.if_icmp .ge 59, 3) := by decide +kernel
theorem dX6_longestGap_49 : decode cX6_longestGap 49 = .ok (.lload 5, 2) := by decide +kernel
theorem dX6_longestGap_51 : decode cX6_longestGap 51 = .ok (.lconst 0, 1) := by decide +kernel
theorem dX6_longestGap_52 : decode cX6_longestGap 52 = .ok (.lcmp, 1) := by decide +kernel
theorem dX6_longestGap_53 : decode cX6_longestGap 53 = .ok (.ifCond .eq 52, 3) := by decide +kernel
theorem dX6_longestGap_56 : decode cX6_longestGap 56 = .ok (.bipush 64, 2) := by decide +kernel
theorem dX6_longestGap_58 : decode cX6_longestGap 58 = .ok (.iload 4, 2) := by decide +kernel
theorem dX6_longestGap_60 : decode cX6_longestGap 60 = .ok (.imul, 1) := by decide +kernel
theorem dX6_longestGap_61 : decode cX6_longestGap 61 = .ok (.lload 5, 2) := by decide +kernel
theorem dX6_longestGap_63 : decode cX6_longestGap 63 = .ok (.invokestatic 31, 3) := by decide +kernel
theorem dX6_longestGap_66 : decode cX6_longestGap 66 = .ok (.iadd, 1) := by decide +kernel
theorem dX6_longestGap_67 : decode cX6_longestGap 67 = .ok (.istore 8, 2) := by decide +kernel
theorem dX6_longestGap_69 : decode cX6_longestGap 69 = .ok (.lload 5, 2) := by decide +kernel
theorem dX6_longestGap_71 : decode cX6_longestGap 71 = .ok (.lload 5, 2) := by decide +kernel
theorem dX6_longestGap_73 : decode cX6_longestGap 73 = .ok (.lconst 1, 1) := by decide +kernel
theorem dX6_longestGap_74 : decode cX6_longestGap 74 = .ok (.lsub, 1) := by decide +kernel
theorem dX6_longestGap_75 : decode cX6_longestGap 75 = .ok (.land, 1) := by decide +kernel
theorem dX6_longestGap_76 : decode cX6_longestGap 76 = .ok (.lstore 5, 2) := by decide +kernel
theorem dX6_longestGap_78 : decode cX6_longestGap 78 = .ok (.iload_n 2, 1) := by decide +kernel
theorem dX6_longestGap_79 : decode cX6_longestGap 79 = .ok (.ifCond .ge 6, 3) := by decide +kernel
theorem dX6_longestGap_82 : decode cX6_longestGap 82 = .ok (.iload 8, 2) := by decide +kernel
theorem dX6_longestGap_84 : decode cX6_longestGap 84 = .ok (.istore_n 2, 1) := by decide +kernel
theorem dX6_longestGap_85 : decode cX6_longestGap 85 = .ok (.iload_n 1, 1) := by decide +kernel
theorem dX6_longestGap_86 : decode cX6_longestGap 86 = .ok (.iload 8, 2) := by decide +kernel
theorem dX6_longestGap_88 : decode cX6_longestGap 88 = .ok (.iload_n 3, 1) := by decide +kernel
theorem dX6_longestGap_89 : decode cX6_longestGap 89 = .ok (.isub, 1) := by decide +kernel
theorem dX6_longestGap_90 : decode cX6_longestGap 90 = .ok (.iconst 1, 1) := by decide +kernel
theorem dX6_longestGap_91 : decode cX6_longestGap 91 = .ok (.isub, 1) := by decide +kernel
theorem dX6_longestGap_92 : decode cX6_longestGap 92 = .ok (.invokestatic 34, 3) := by decide +kernel
theorem dX6_longestGap_95 : decode cX6_longestGap 95 = .ok (.istore_n 1, 1) := by decide +kernel
theorem dX6_longestGap_96 : decode cX6_longestGap 96 = .ok (.iload 8, 2) := by decide +kernel
theorem dX6_longestGap_98 : decode cX6_longestGap 98 = .ok (.istore_n 3, 1) := by decide +kernel
theorem dX6_longestGap_99 : decode cX6_longestGap 99 = .ok (.iinc 7 1, 3) := by decide +kernel
theorem dX6_longestGap_102 : decode cX6_longestGap 102 = .ok (.goto (-60), 3) := by decide +kernel
theorem dX6_longestGap_105 : decode cX6_longestGap 105 = .ok (.iinc 4 1, 3) := by decide +kernel
theorem dX6_longestGap_108 : decode cX6_longestGap 108 = .ok (.goto (-88), 3) := by decide +kernel
theorem dX6_longestGap_111 : decode cX6_longestGap 111 = .ok (.iload_n 1, 1) := by decide +kernel
theorem dX6_longestGap_112 : decode cX6_longestGap 112 = .ok (.iload_n 2, 1) := by decide +kernel
theorem dX6_longestGap_113 : decode cX6_longestGap 113 = .ok (.sipush 27720, 3) := by decide +kernel
theorem dX6_longestGap_116 : decode cX6_longestGap 116 = .ok (.iadd, 1) := by decide +kernel
theorem dX6_longestGap_117 : decode cX6_longestGap 117 = .ok (.iload_n 3, 1) := by decide +kernel
theorem dX6_longestGap_118 : decode cX6_longestGap 118 = .ok (.isub, 1) := by decide +kernel
theorem dX6_longestGap_119 : decode cX6_longestGap 119 = .ok (.iconst 1, 1) := by decide +kernel
theorem dX6_longestGap_120 : decode cX6_longestGap 120 = .ok (.isub, 1) := by decide +kernel
theorem dX6_longestGap_121 : decode cX6_longestGap 121 = .ok (.invokestatic 34, 3) := by decide +kernel
theorem dX6_longestGap_124 : decode cX6_longestGap 124 = .ok (.ireturn, 1) := by decide +kernel
theorem dX7_init_0 : decode cX7_init 0 = .ok (.aload_n 0, 1) := by decide +kernel
theorem dX7_init_1 : decode cX7_init 1 = .ok (.invokespecial 1, 3) := by decide +kernel
theorem dX7_init_4 : decode cX7_init 4 = .ok (.aload_n 0, 1) := by decide +kernel
theorem dX7_init_5 : decode cX7_init 5 = .ok (.iload_n 1, 1) := by decide +kernel
theorem dX7_init_6 : decode cX7_init 6 = .ok (.putfield 7, 3) := by decide +kernel
theorem dX7_init_9 : decode cX7_init 9 = .ok (.return_, 1) := by decide +kernel
theorem dX7_start_0 : decode cX7_start 0 = .ok (.aload_n 0, 1) := by decide +kernel
theorem dX7_start_1 : decode cX7_start 1 = .ok (.iload_n 1, 1) := by decide +kernel
theorem dX7_start_2 : decode cX7_start 2 = .ok (.putfield 13, 3) := by decide +kernel
theorem dX7_start_5 : decode cX7_start 5 = .ok (.aload_n 0, 1) := by decide +kernel
theorem dX7_start_6 : decode cX7_start 6 = .ok (.iload_n 2, 1) := by decide +kernel
theorem dX7_start_7 : decode cX7_start 7 = .ok (.putfield 16, 3) := by decide +kernel
theorem dX7_start_10 : decode cX7_start 10 = .ok (.aload_n 0, 1) := by decide +kernel
theorem dX7_start_11 : decode cX7_start 11 = .ok (.iload_n 3, 1) := by decide +kernel
theorem dX7_start_12 : decode cX7_start 12 = .ok (.putfield 19, 3) := by decide +kernel
theorem dX7_start_15 : decode cX7_start 15 = .ok (.aload_n 0, 1) := by decide +kernel
theorem dX7_start_16 : decode cX7_start 16 = .ok (.lload 4, 2) := by decide +kernel
theorem dX7_start_18 : decode cX7_start 18 = .ok (.putfield 22, 3) := by decide +kernel
theorem dX7_start_21 : decode cX7_start 21 = .ok (.aload_n 0, 1) := by decide +kernel
theorem dX7_start_22 : decode cX7_start 22 = .ok (.iconst 1, 1) := by decide +kernel
theorem dX7_start_23 : decode cX7_start 23 = .ok (.putfield 26, 3) := by decide +kernel
theorem dX7_start_26 : decode cX7_start 26 = .ok (.return_, 1) := by decide +kernel
theorem dX7_lose_0 : decode cX7_lose 0 = .ok (.aload_n 0, 1) := by decide +kernel
theorem dX7_lose_1 : decode cX7_lose 1 = .ok (.aload_n 0, 1) := by decide +kernel
theorem dX7_lose_2 : decode cX7_lose 2 = .ok (.getfield 19, 3) := by decide +kernel
theorem dX7_lose_5 : decode cX7_lose 5 = .ok (.sipush 1000, 3) := by decide +kernel
theorem dX7_lose_8 : decode cX7_lose 8 = .ok (.iload_n 1, 1) := by decide +kernel
theorem dX7_lose_9 : decode cX7_lose 9 = .ok (.isub, 1) := by decide +kernel
theorem dX7_lose_10 : decode cX7_lose 10 = .ok (.imul, 1) := by decide +kernel
theorem dX7_lose_11 : decode cX7_lose 11 = .ok (.sipush 1000, 3) := by decide +kernel
theorem dX7_lose_14 : decode cX7_lose 14 = .ok (.idiv, 1) := by decide +kernel
theorem dX7_lose_15 : decode cX7_lose 15 = .ok (.putfield 19, 3) := by decide +kernel
theorem dX7_lose_18 : decode cX7_lose 18 = .ok (.return_, 1) := by decide +kernel
set_option maxRecDepth 20000 in
theorem ggX7_tilt_X0_tilted : GoodIn wsX7_tilt wsX0_tilted := goodIn_r _ [6, 7, 8, 9, 10] (by decide +kernel) (by decide +kernel)
set_option maxRecDepth 20000 in
theorem gX7_tilt_X0_tilted : GoodIn wsX7_tilt (va_wsS RX7 30 yX0_tilted wsX0_tilted) := goodIn_app (goodIn_of _ (by decide +kernel)) ggX7_tilt_X0_tilted
theorem dX7_tilt_0 : decode cX7_tilt 0 = .ok (.aload_n 0, 1) := by decide +kernel
theorem dX7_tilt_1 : decode cX7_tilt 1 = .ok (.getfield 16, 3) := by decide +kernel
theorem dX7_tilt_4 : decode cX7_tilt 4 = .ok (.iload_n 1, 1) := by decide +kernel
theorem dX7_tilt_5 : decode cX7_tilt 5 = .ok (.invokestatic 30, 3) := by decide +kernel
theorem dX7_tilt_8 : decode cX7_tilt 8 = .ok (.istore_n 2, 1) := by decide +kernel
theorem dX7_tilt_9 : decode cX7_tilt 9 = .ok (.iload_n 2, 1) := by decide +kernel
theorem dX7_tilt_10 : decode cX7_tilt 10 = .ok (.ifCond .ne 11, 3) := by decide +kernel
theorem dX7_tilt_13 : decode cX7_tilt 13 = .ok (.aload_n 0, 1) := by decide +kernel
theorem dX7_tilt_14 : decode cX7_tilt 14 = .ok (.iconst 0, 1) := by decide +kernel
theorem dX7_tilt_15 : decode cX7_tilt 15 = .ok (.putfield 26, 3) := by decide +kernel
theorem dX7_tilt_18 : decode cX7_tilt 18 = .ok (.goto 8, 3) := by decide +kernel
theorem dX7_tilt_21 : decode cX7_tilt 21 = .ok (.aload_n 0, 1) := by decide +kernel
theorem dX7_tilt_22 : decode cX7_tilt 22 = .ok (.iload_n 2, 1) := by decide +kernel
theorem dX7_tilt_23 : decode cX7_tilt 23 = .ok (.putfield 16, 3) := by decide +kernel
theorem dX7_tilt_26 : decode cX7_tilt 26 = .ok (.return_, 1) := by decide +kernel
set_option maxRecDepth 20000 in
theorem ggX8_init_X3_init : GoodIn wsX8_init wsX3_init := goodIn_r _ [25, 26, 2, 3, 27, 28, 29, 30, 60, 61, 62, 63, 64] (by decide +kernel) (by decide +kernel)
set_option maxRecDepth 20000 in
theorem gX8_init_X3_init_n19 : GoodIn wsX8_init (wsX3_init) := ggX8_init_X3_init
set_option maxRecDepth 20000 in
theorem ggX8_init_X6_init : GoodIn wsX8_init wsX6_init := goodIn_r _ [32, 33, 2, 3, 27, 34, 65, 66] (by decide +kernel) (by decide +kernel)
set_option maxRecDepth 20000 in
theorem gX8_init_X6_init_n26 : GoodIn wsX8_init (wsX6_init) := ggX8_init_X6_init
set_option maxRecDepth 20000 in
theorem ggX8_init_X1_init : GoodIn wsX8_init wsX1_init := goodIn_r _ [37, 38, 2, 3, 27, 39, 40, 41, 42, 16, 43, 44, 67] (by decide +kernel) (by decide +kernel)
set_option maxRecDepth 20000 in
theorem gX8_init_X1_init : GoodIn wsX8_init (wsX1_init) := ggX8_init_X1_init
set_option maxRecDepth 20000 in
theorem ggX8_init_X5_init : GoodIn wsX8_init wsX5_init := goodIn_r _ [46, 47, 2, 3, 29, 48, 68, 69] (by decide +kernel) (by decide +kernel)
set_option maxRecDepth 20000 in
theorem gX8_init_X5_init_n40 : GoodIn wsX8_init (wsX5_init) := ggX8_init_X5_init
set_option maxRecDepth 20000 in
theorem ggX8_init_X7_init : GoodIn wsX8_init wsX7_init := goodIn_r _ [51, 52, 2, 3, 53, 70, 71, 72, 73, 74, 75] (by decide +kernel) (by decide +kernel)
set_option maxRecDepth 20000 in
theorem gX8_init_X7_init : GoodIn wsX8_init (wsX7_init) := ggX8_init_X7_init
theorem dX8_init_0 : decode cX8_init 0 = .ok (.aload_n 0, 1) := by decide +kernel
theorem dX8_init_1 : decode cX8_init 1 = .ok (.invokespecial 3, 3) := by decide +kernel
theorem dX8_init_4 : decode cX8_init 4 = .ok (.aload_n 0, 1) := by decide +kernel
theorem dX8_init_5 : decode cX8_init 5 = .ok (.bipush 100, 2) := by decide +kernel
theorem dX8_init_7 : decode cX8_init 7 = .ok (.anewarray 9, 3) := by decide +kernel
theorem dX8_init_10 : decode cX8_init 10 = .ok (.putfield 11, 3) := by decide +kernel
theorem dX8_init_13 : decode cX8_init 13 = .ok (.aload_n 0, 1) := by decide +kernel
theorem dX8_init_14 : decode cX8_init 14 = .ok (.new 17, 3) := by decide +kernel
theorem dX8_init_17 : decode cX8_init 17 = .ok (.dup, 1) := by decide +kernel
theorem dX8_init_18 : decode cX8_init 18 = .ok (.invokespecial 19, 3) := by decide +kernel
theorem dX8_init_21 : decode cX8_init 21 = .ok (.putfield 20, 3) := by decide +kernel
theorem dX8_init_24 : decode cX8_init 24 = .ok (.aload_n 0, 1) := by decide +kernel
theorem dX8_init_25 : decode cX8_init 25 = .ok (.new 24, 3) := by decide +kernel
theorem dX8_init_28 : decode cX8_init 28 = .ok (.dup, 1) := by decide +kernel
theorem dX8_init_29 : decode cX8_init 29 = .ok (.invokespecial 26, 3) := by decide +kernel
theorem dX8_init_32 : decode cX8_init 32 = .ok (.putfield 27, 3) := by decide +kernel
theorem dX8_init_35 : decode cX8_init 35 = .ok (.aload_n 0, 1) := by decide +kernel
theorem dX8_init_36 : decode cX8_init 36 = .ok (.new 31, 3) := by decide +kernel
theorem dX8_init_39 : decode cX8_init 39 = .ok (.dup, 1) := by decide +kernel
theorem dX8_init_40 : decode cX8_init 40 = .ok (.invokespecial 33, 3) := by decide +kernel
theorem dX8_init_43 : decode cX8_init 43 = .ok (.putfield 34, 3) := by decide +kernel
theorem dX8_init_46 : decode cX8_init 46 = .ok (.aload_n 0, 1) := by decide +kernel
theorem dX8_init_47 : decode cX8_init 47 = .ok (.new 38, 3) := by decide +kernel
theorem dX8_init_50 : decode cX8_init 50 = .ok (.dup, 1) := by decide +kernel
theorem dX8_init_51 : decode cX8_init 51 = .ok (.invokespecial 40, 3) := by decide +kernel
theorem dX8_init_54 : decode cX8_init 54 = .ok (.putfield 41, 3) := by decide +kernel
theorem dX8_init_57 : decode cX8_init 57 = .ok (.iconst 0, 1) := by decide +kernel
theorem dX8_init_58 : decode cX8_init 58 = .ok (.istore_n 1, 1) := by decide +kernel
theorem dX8_init_59 : decode cX8_init 59 = .ok (.iload_n 1, 1) := by decide +kernel
theorem dX8_init_60 : decode cX8_init 60 = .ok (.aload_n 0, 1) := by decide +kernel
theorem dX8_init_61 : decode cX8_init 61 = .ok (.getfield 11, 3) := by decide +kernel
theorem dX8_init_64 : decode cX8_init 64 = .ok (.arraylength, 1) := by decide +kernel
theorem dX8_init_65 : decode cX8_init 65 = .ok (.if_icmp .ge 23, 3) := by decide +kernel
theorem dX8_init_68 : decode cX8_init 68 = .ok (.aload_n 0, 1) := by decide +kernel
theorem dX8_init_69 : decode cX8_init 69 = .ok (.getfield 11, 3) := by decide +kernel
theorem dX8_init_72 : decode cX8_init 72 = .ok (.iload_n 1, 1) := by decide +kernel
theorem dX8_init_73 : decode cX8_init 73 = .ok (.new 9, 3) := by decide +kernel
theorem dX8_init_76 : decode cX8_init 76 = .ok (.dup, 1) := by decide +kernel
theorem dX8_init_77 : decode cX8_init 77 = .ok (.iload_n 1, 1) := by decide +kernel
theorem dX8_init_78 : decode cX8_init 78 = .ok (.invokespecial 45, 3) := by decide +kernel
theorem dX8_init_81 : decode cX8_init 81 = .ok (.aastore, 1) := by decide +kernel
theorem dX8_init_82 : decode cX8_init 82 = .ok (.iinc 1 1, 3) := by decide +kernel
theorem dX8_init_85 : decode cX8_init 85 = .ok (.goto (-26), 3) := by decide +kernel
theorem dX8_init_88 : decode cX8_init 88 = .ok (.return_, 1) := by decide +kernel
set_option maxRecDepth 20000 in
theorem ggX8_run_X3_forget : GoodIn wsX8_run wsX3_forget := goodIn_r _ [10, 11, 12, 13, 154, 155, 156, 157, 158] (by decide +kernel) (by decide +kernel)
set_option maxRecDepth 20000 in
theorem gX8_run_X3_forget : GoodIn wsX8_run (wsV RX8 48 RX3 yX3_forget wsX3_forget) := goodIn_app (goodIn_of _ (by decide +kernel)) ggX8_run_X3_forget
set_option maxRecDepth 20000 in
theorem ggX8_run_X6_forget : GoodIn wsX8_run wsX6_forget := goodIn_r _ [18, 19, 20, 159, 160] (by decide +kernel) (by decide +kernel)
set_option maxRecDepth 20000 in
theorem gX8_run_X6_forget : GoodIn wsX8_run (wsV RX8 51 RX6 yX6_forget wsX6_forget) := goodIn_app (goodIn_of _ (by decide +kernel)) ggX8_run_X6_forget
set_option maxRecDepth 20000 in
theorem ggX8_run_X1_forget : GoodIn wsX8_run wsX1_forget := goodIn_r _ [25, 26, 27, 161] (by decide +kernel) (by decide +kernel)
set_option maxRecDepth 20000 in
theorem gX8_run_X1_forget : GoodIn wsX8_run (wsV RX8 52 RX1 yX1_forget wsX1_forget) := goodIn_app (goodIn_of _ (by decide +kernel)) ggX8_run_X1_forget
set_option maxRecDepth 20000 in
theorem ggX8_run_X5_startAt : GoodIn wsX8_run wsX5_startAt := goodIn_r _ [32, 33, 34, 35, 36, 31, 37, 38, 162, 163] (by decide +kernel) (by decide +kernel)
set_option maxRecDepth 20000 in
theorem gX8_run_X5_startAt : GoodIn wsX8_run (wsV RX8 53 RX5 yX5_startAt wsX5_startAt) := goodIn_app (goodIn_of _ (by decide +kernel)) ggX8_run_X5_startAt
set_option maxRecDepth 20000 in
theorem ggX8_run_X0_chordTime : GoodIn wsX8_run wsX0_chordTime := goodIn_r _ [42, 43, 44, 45, 46, 47, 48, 49, 41, 50, 51, 52, 53] (by decide +kernel) (by decide +kernel)
set_option maxRecDepth 20000 in
theorem gX8_run_X0_chordTime : GoodIn wsX8_run (va_wsS RX8 60 yX0_chordTime wsX0_chordTime) := goodIn_app (goodIn_of _ (by decide +kernel)) ggX8_run_X0_chordTime
set_option maxRecDepth 20000 in
theorem ggX8_run_X8_begin : GoodIn wsX8_run wsX8_begin := goodIn_r _ [58, 5, 59, 60, 61, 62, 63, 64, 65, 66, 67, 68, 69, 148, 149, 150, 151, 152, 153, 164, 165, 166, 167, 168, 169] (by decide +kernel) (by decide +kernel)
set_option maxRecDepth 20000 in
theorem gX8_run_X8_begin : GoodIn wsX8_run (wsV RX8 66 RX8 yX8_begin wsX8_begin) := goodIn_app (goodIn_of _ (by decide +kernel)) ggX8_run_X8_begin
set_option maxRecDepth 20000 in
theorem ggX8_run_X8_earliest : GoodIn wsX8_run wsX8_earliest := goodIn_r _ [73, 5, 59, 148, 149, 150, 151, 152, 153, 164, 165, 166, 167, 168, 169] (by decide +kernel) (by decide +kernel)
set_option maxRecDepth 20000 in
theorem gX8_run_X8_earliest : GoodIn wsX8_run (wsV RX8 70 RX8 yX8_earliest wsX8_earliest) := goodIn_app (goodIn_of _ (by decide +kernel)) ggX8_run_X8_earliest
set_option maxRecDepth 20000 in
theorem ggX8_run_X8_meet : GoodIn wsX8_run wsX8_meet := goodIn_r _ [77, 1, 2, 4, 78, 79, 41, 80, 81, 82, 83, 84, 85, 86, 87, 9, 88, 11, 89, 13, 90, 91, 92, 17, 93, 19, 20, 94, 95, 96, 97, 35, 36, 31, 37, 33, 38, 98, 99, 100, 63, 101, 67, 102, 103, 104, 105, 106, 107, 108, 109, 110, 111, 112, 113, 114, 115, 116, 117, 118, 119, 120, 121, 57, 122, 3, 123, 124, 125, 126, 127, 66, 69, 128, 129, 130, 44, 45, 46, 47, 131, 132, 133, 134, 135, 39, 40, 42, 43, 48, 49, 50, 51, 52, 53, 54, 55, 56, 58, 5, 59, 60, 61, 62, 64, 65, 68, 136, 137, 138, 24, 139, 26, 140, 141, 142, 143, 144, 145, 146, 12, 147, 164, 165, 166, 167, 168, 169, 148, 149, 150, 151, 152, 153, 170, 171, 172, 173, 174, 154, 155, 156, 157, 158, 159, 160, 162, 163, 161] (by decide +kernel) (by decide +kernel)
set_option maxRecDepth 20000 in
theorem gX8_run_X8_meet : GoodIn wsX8_run (wsV RX8 74 RX8 yX8_meet wsX8_meet) := goodIn_app (goodIn_of _ (by decide +kernel)) ggX8_run_X8_meet
theorem dX8_run_0 : decode cX8_run 0 = .ok (.aload_n 0, 1) := by decide +kernel
theorem dX8_run_1 : decode cX8_run 1 = .ok (.getfield 20, 3) := by decide +kernel
theorem dX8_run_4 : decode cX8_run 4 = .ok (.invokevirtual 48, 3) := by decide +kernel
theorem dX8_run_7 : decode cX8_run 7 = .ok (.aload_n 0, 1) := by decide +kernel
theorem dX8_run_8 : decode cX8_run 8 = .ok (.getfield 27, 3) := by decide +kernel
theorem dX8_run_11 : decode cX8_run 11 = .ok (.invokevirtual 51, 3) := by decide +kernel
theorem dX8_run_14 : decode cX8_run 14 = .ok (.aload_n 0, 1) := by decide +kernel
theorem dX8_run_15 : decode cX8_run 15 = .ok (.getfield 34, 3) := by decide +kernel
theorem dX8_run_18 : decode cX8_run 18 = .ok (.invokevirtual 52, 3) := by decide +kernel
theorem dX8_run_21 : decode cX8_run 21 = .ok (.aload_n 0, 1) := by decide +kernel
theorem dX8_run_22 : decode cX8_run 22 = .ok (.getfield 41, 3) := by decide +kernel
theorem dX8_run_25 : decode cX8_run 25 = .ok (.iload_n 2, 1) := by decide +kernel
theorem dX8_run_26 : decode cX8_run 26 = .ok (.invokevirtual 53, 3) := by decide +kernel
theorem dX8_run_29 : decode cX8_run 29 = .ok (.aload_n 0, 1) := by decide +kernel
theorem dX8_run_30 : decode cX8_run 30 = .ok (.iconst 0, 1) := by decide +kernel
theorem dX8_run_31 : decode cX8_run 31 = .ok (.putfield 56, 3) := by decide +kernel
theorem dX8_run_34 : decode cX8_run 34 = .ok (.aload_n 0, 1) := by decide +kernel
theorem dX8_run_35 : decode cX8_run 35 = .ok (.iload_n 2, 1) := by decide +kernel
theorem dX8_run_36 : decode cX8_run 36 = .ok (.iload_n 3, 1) := by decide +kernel
theorem dX8_run_37 : decode cX8_run 37 = .ok (.iload 4, 2) := by decide +kernel
theorem dX8_run_39 : decode cX8_run 39 = .ok (.iload_n 3, 1) := by decide +kernel
theorem dX8_run_40 : decode cX8_run 40 = .ok (.invokestatic 60, 3) := by decide +kernel
theorem dX8_run_43 : decode cX8_run 43 = .ok (.i2l, 1) := by decide +kernel
theorem dX8_run_44 : decode cX8_run 44 = .ok (.invokevirtual 66, 3) := by decide +kernel
theorem dX8_run_47 : decode cX8_run 47 = .ok (.iconst 0, 1) := by decide +kernel
theorem dX8_run_48 : decode cX8_run 48 = .ok (.istore 5, 2) := by decide +kernel
theorem dX8_run_50 : decode cX8_run 50 = .ok (.iload 5, 2) := by decide +kernel
theorem dX8_run_52 : decode cX8_run 52 = .ok (.sipush 600, 3) := by decide +kernel
theorem dX8_run_55 : decode cX8_run 55 = .ok (.if_icmp .ge 28, 3) := by decide +kernel
theorem dX8_run_58 : decode cX8_run 58 = .ok (.aload_n 0, 1) := by decide +kernel
theorem dX8_run_59 : decode cX8_run 59 = .ok (.invokevirtual 70, 3) := by decide +kernel
theorem dX8_run_62 : decode cX8_run 62 = .ok (.astore 6, 2) := by decide +kernel
theorem dX8_run_64 : decode cX8_run 64 = .ok (.aload 6, 2) := by decide +kernel
theorem dX8_run_66 : decode cX8_run 66 = .ok (.ifnonnull 4, 3) := by decide +kernel
theorem dX8_run_69 : decode cX8_run 69 = .ok (.return_, 1) := by decide +kernel
theorem dX8_run_70 : decode cX8_run 70 = .ok (.aload_n 0, 1) := by decide +kernel
theorem dX8_run_71 : decode cX8_run 71 = .ok (.aload_n 1, 1) := by decide +kernel
theorem dX8_run_72 : decode cX8_run 72 = .ok (.aload 6, 2) := by decide +kernel
theorem dX8_run_74 : decode cX8_run 74 = .ok (.invokevirtual 74, 3) := by decide +kernel
theorem dX8_run_77 : decode cX8_run 77 = .ok (.iinc 5 1, 3) := by decide +kernel
theorem dX8_run_80 : decode cX8_run 80 = .ok (.goto (-30), 3) := by decide +kernel
theorem dX8_run_83 : decode cX8_run 83 = .ok (.return_, 1) := by decide +kernel
set_option maxRecDepth 20000 in
theorem ggX8_begin_X7_start : GoodIn wsX8_begin wsX7_start := goodIn_r _ [7, 8, 9, 10, 11, 12, 19, 20, 21, 22, 23, 24] (by decide +kernel) (by decide +kernel)
set_option maxRecDepth 20000 in
theorem gX8_begin_X7_start : GoodIn wsX8_begin (wsV RX8 78 RX7 yX7_start wsX7_start) := goodIn_app (goodIn_of _ (by decide +kernel)) ggX8_begin_X7_start
theorem dX8_begin_0 : decode cX8_begin 0 = .ok (.aload_n 0, 1) := by decide +kernel
theorem dX8_begin_1 : decode cX8_begin 1 = .ok (.getfield 56, 3) := by decide +kernel
theorem dX8_begin_4 : decode cX8_begin 4 = .ok (.bipush 100, 2) := by decide +kernel
theorem dX8_begin_6 : decode cX8_begin 6 = .ok (.if_icmp .ge 30, 3) := by decide +kernel
theorem dX8_begin_9 : decode cX8_begin 9 = .ok (.aload_n 0, 1) := by decide +kernel
theorem dX8_begin_10 : decode cX8_begin 10 = .ok (.getfield 11, 3) := by decide +kernel
theorem dX8_begin_13 : decode cX8_begin 13 = .ok (.aload_n 0, 1) := by decide +kernel
theorem dX8_begin_14 : decode cX8_begin 14 = .ok (.getfield 56, 3) := by decide +kernel
theorem dX8_begin_17 : decode cX8_begin 17 = .ok (.aaload, 1) := by decide +kernel
theorem dX8_begin_18 : decode cX8_begin 18 = .ok (.iload_n 1, 1) := by decide +kernel
theorem dX8_begin_19 : decode cX8_begin 19 = .ok (.iload_n 2, 1) := by decide +kernel
theorem dX8_begin_20 : decode cX8_begin 20 = .ok (.iload_n 3, 1) := by decide +kernel
theorem dX8_begin_21 : decode cX8_begin 21 = .ok (.lload 4, 2) := by decide +kernel
theorem dX8_begin_23 : decode cX8_begin 23 = .ok (.invokevirtual 78, 3) := by decide +kernel
theorem dX8_begin_26 : decode cX8_begin 26 = .ok (.aload_n 0, 1) := by decide +kernel
theorem dX8_begin_27 : decode cX8_begin 27 = .ok (.dup, 1) := by decide +kernel
theorem dX8_begin_28 : decode cX8_begin 28 = .ok (.getfield 56, 3) := by decide +kernel
theorem dX8_begin_31 : decode cX8_begin 31 = .ok (.iconst 1, 1) := by decide +kernel
theorem dX8_begin_32 : decode cX8_begin 32 = .ok (.iadd, 1) := by decide +kernel
theorem dX8_begin_33 : decode cX8_begin 33 = .ok (.putfield 56, 3) := by decide +kernel
theorem dX8_begin_36 : decode cX8_begin 36 = .ok (.return_, 1) := by decide +kernel
theorem dX8_earliest_0 : decode cX8_earliest 0 = .ok (.aconst_null, 1) := by decide +kernel
theorem dX8_earliest_1 : decode cX8_earliest 1 = .ok (.astore_n 1, 1) := by decide +kernel
theorem dX8_earliest_2 : decode cX8_earliest 2 = .ok (.iconst 0, 1) := by decide +kernel
theorem dX8_earliest_3 : decode cX8_earliest 3 = .ok (.istore_n 2, 1) := by decide +kernel
theorem dX8_earliest_4 : decode cX8_earliest 4 = .ok (.iload_n 2, 1) := by decide +kernel
theorem dX8_earliest_5 : decode cX8_earliest 5 = .ok (.aload_n 0, 1) := by decide +kernel
theorem dX8_earliest_6 : decode cX8_earliest 6 = .ok (.getfield 56, 3) := by decide +kernel
theorem dX8_earliest_9 : decode cX8_earliest 9 = .ok (.if_icmp .ge 41, 3) := by decide +kernel
theorem dX8_earliest_12 : decode cX8_earliest 12 = .ok (.aload_n 0, 1) := by decide +kernel
theorem dX8_earliest_13 : decode cX8_earliest 13 = .ok (.getfield 11, 3) := by decide +kernel
theorem dX8_earliest_16 : decode cX8_earliest 16 = .ok (.iload_n 2, 1) := by decide +kernel
theorem dX8_earliest_17 : decode cX8_earliest 17 = .ok (.aaload, 1) := by decide +kernel
theorem dX8_earliest_18 : decode cX8_earliest 18 = .ok (.astore_n 3, 1) := by decide +kernel
theorem dX8_earliest_19 : decode cX8_earliest 19 = .ok (.aload_n 3, 1) := by decide +kernel
theorem dX8_earliest_20 : decode cX8_earliest 20 = .ok (.getfield 81, 3) := by decide +kernel
theorem dX8_earliest_23 : decode cX8_earliest 23 = .ok (.ifCond .eq 21, 3) := by decide +kernel
theorem dX8_earliest_26 : decode cX8_earliest 26 = .ok (.aload_n 1, 1) := by decide +kernel
theorem dX8_earliest_27 : decode cX8_earliest 27 = .ok (.ifnull 15, 3) := by decide +kernel
theorem dX8_earliest_30 : decode cX8_earliest 30 = .ok (.aload_n 3, 1) := by decide +kernel
theorem dX8_earliest_31 : decode cX8_earliest 31 = .ok (.getfield 85, 3) := by decide +kernel
theorem dX8_earliest_34 : decode cX8_earliest 34 = .ok (.aload_n 1, 1) := by decide +kernel
theorem dX8_earliest_35 : decode cX8_earliest 35 = .ok (.getfield 85, 3) := by decide +kernel
theorem dX8_earliest_38 : decode cX8_earliest 38 = .ok (.lcmp, 1) := by decide +kernel
theorem dX8_earliest_39 : decode cX8_earliest 39 = .ok (.ifCond .ge 5, 3) := by decide +kernel
theorem dX8_earliest_42 : decode cX8_earliest 42 = .ok (.aload_n 3, 1) := by decide +kernel
theorem dX8_earliest_43 : decode cX8_earliest 43 = .ok (.astore_n 1, 1) := by decide +kernel
theorem dX8_earliest_44 : decode cX8_earliest 44 = .ok (.iinc 2 1, 3) := by decide +kernel
theorem dX8_earliest_47 : decode cX8_earliest 47 = .ok (.goto (-43), 3) := by decide +kernel
theorem dX8_earliest_50 : decode cX8_earliest 50 = .ok (.aload_n 1, 1) := by decide +kernel
theorem dX8_earliest_51 : decode cX8_earliest 51 = .ok (.areturn, 1) := by decide +kernel
set_option maxRecDepth 20000 in
theorem ggX8_meet_X0_placeAfter : GoodIn wsX8_meet wsX0_placeAfter := goodIn_r _ [7, 8, 9, 10, 11] (by decide +kernel) (by decide +kernel)
set_option maxRecDepth 20000 in
theorem gX8_meet_X0_placeAfter : GoodIn wsX8_meet (va_wsS RX8 95 yX0_placeAfter wsX0_placeAfter) := goodIn_app (goodIn_of _ (by decide +kernel)) ggX8_meet_X0_placeAfter
set_option maxRecDepth 20000 in
theorem ggX8_meet_X3_note : GoodIn wsX8_meet wsX3_note := goodIn_r _ [16, 17, 18, 19, 139, 140, 141, 142, 143, 122, 123, 124, 125, 126, 127] (by decide +kernel) (by decide +kernel)
set_option maxRecDepth 20000 in
theorem gX8_meet_X3_note : GoodIn wsX8_meet (wsV RX8 99 RX3 yX3_note wsX3_note) := goodIn_app (goodIn_of _ (by decide +kernel)) ggX8_meet_X3_note
set_option maxRecDepth 20000 in
theorem ggX8_meet_X6_mark : GoodIn wsX8_meet wsX6_mark := goodIn_r _ [24, 25, 26, 27, 28, 6, 29, 144, 145] (by decide +kernel) (by decide +kernel)
set_option maxRecDepth 20000 in
theorem gX8_meet_X6_mark : GoodIn wsX8_meet (wsV RX8 103 RX6 yX6_mark wsX6_mark) := goodIn_app (goodIn_of _ (by decide +kernel)) ggX8_meet_X6_mark
set_option maxRecDepth 20000 in
theorem ggX8_meet_X5_goTo : GoodIn wsX8_meet wsX5_goTo := goodIn_r _ [34, 35, 36, 146, 147] (by decide +kernel) (by decide +kernel)
set_option maxRecDepth 20000 in
theorem gX8_meet_X5_goTo : GoodIn wsX8_meet (wsV RX8 109 RX5 yX5_goTo wsX5_goTo) := goodIn_app (goodIn_of _ (by decide +kernel)) ggX8_meet_X5_goTo
set_option maxRecDepth 20000 in
theorem ggX8_meet_X7_lose : GoodIn wsX8_meet wsX7_lose := goodIn_r _ [41, 42, 122, 123, 124, 125, 126, 127] (by decide +kernel) (by decide +kernel)
set_option maxRecDepth 20000 in
theorem gX8_meet_X7_lose : GoodIn wsX8_meet (wsV RX8 117 RX7 yX7_lose wsX7_lose) := goodIn_app (goodIn_of _ (by decide +kernel)) ggX8_meet_X7_lose
set_option maxRecDepth 20000 in
theorem ggX8_meet_X4_covers : GoodIn wsX8_meet wsX4_covers := goodIn_r _ [47, 48, 49, 50, 46, 51, 52, 53, 54, 55, 56, 57, 58, 59, 9, 10, 11, 137, 138] (by decide +kernel) (by decide +kernel)
set_option maxRecDepth 20000 in
theorem gX8_meet_X4_covers : GoodIn wsX8_meet (wsV RX8 129 RX4 yX4_covers wsX4_covers) := goodIn_app (goodIn_of _ (by decide +kernel)) ggX8_meet_X4_covers
set_option maxRecDepth 20000 in
theorem ggX8_meet_X8_act : GoodIn wsX8_meet wsX8_act := goodIn_r _ [64, 65, 1, 66, 49, 50, 46, 51, 52, 53, 54, 55, 56, 57, 58, 37, 38, 39, 40, 41, 42, 67, 68, 69, 70, 71, 72, 73, 74, 6, 75, 76, 77, 78, 79, 80, 81, 82, 63, 83, 84, 85, 86, 87, 88, 89, 90, 91, 92, 93, 94, 95, 96, 97, 98, 99, 100, 101, 102, 103, 104, 105, 106, 107, 108, 109, 110, 111, 112, 113, 114, 115, 116, 117, 118, 15, 119, 17, 120, 121, 134, 135, 136, 122, 123, 124, 125, 126, 127, 128, 129, 130, 131, 132, 133, 137, 138, 148, 139, 140, 141, 142, 143] (by decide +kernel) (by decide +kernel)
set_option maxRecDepth 20000 in
theorem gX8_meet_X8_act : GoodIn wsX8_meet (wsV RX8 133 RX8 yX8_act wsX8_act) := goodIn_app (goodIn_of _ (by decide +kernel)) ggX8_meet_X8_act
set_option maxRecDepth 20000 in
theorem ggX8_meet_X0_chordTime : GoodIn wsX8_meet wsX0_chordTime := goodIn_r _ [87, 88, 76, 77, 78, 79, 89, 90, 6, 91, 92, 93, 94] (by decide +kernel) (by decide +kernel)
set_option maxRecDepth 20000 in
theorem gX8_meet_X0_chordTime : GoodIn wsX8_meet (va_wsS RX8 60 yX0_chordTime wsX0_chordTime) := goodIn_app (goodIn_of _ (by decide +kernel)) ggX8_meet_X0_chordTime
theorem dX8_meet_0 : decode cX8_meet 0 = .ok (.aload_n 2, 1) := by decide +kernel
theorem dX8_meet_1 : decode cX8_meet 1 = .ok (.aload_n 2, 1) := by decide +kernel
theorem dX8_meet_2 : decode cX8_meet 2 = .ok (.getfield 89, 3) := by decide +kernel
theorem dX8_meet_5 : decode cX8_meet 5 = .ok (.aload_n 2, 1) := by decide +kernel
theorem dX8_meet_6 : decode cX8_meet 6 = .ok (.getfield 92, 3) := by decide +kernel
theorem dX8_meet_9 : decode cX8_meet 9 = .ok (.invokestatic 95, 3) := by decide +kernel
theorem dX8_meet_12 : decode cX8_meet 12 = .ok (.putfield 89, 3) := by decide +kernel
theorem dX8_meet_15 : decode cX8_meet 15 = .ok (.aload_n 0, 1) := by decide +kernel
theorem dX8_meet_16 : decode cX8_meet 16 = .ok (.getfield 20, 3) := by decide +kernel
theorem dX8_meet_19 : decode cX8_meet 19 = .ok (.aload_n 2, 1) := by decide +kernel
theorem dX8_meet_20 : decode cX8_meet 20 = .ok (.invokevirtual 99, 3) := by decide +kernel
theorem dX8_meet_23 : decode cX8_meet 23 = .ok (.aload_n 0, 1) := by decide +kernel
theorem dX8_meet_24 : decode cX8_meet 24 = .ok (.getfield 27, 3) := by decide +kernel
theorem dX8_meet_27 : decode cX8_meet 27 = .ok (.aload_n 2, 1) := by decide +kernel
theorem dX8_meet_28 : decode cX8_meet 28 = .ok (.getfield 89, 3) := by decide +kernel
theorem dX8_meet_31 : decode cX8_meet 31 = .ok (.invokevirtual 103, 3) := by decide +kernel
theorem dX8_meet_34 : decode cX8_meet 34 = .ok (.aload_n 2, 1) := by decide +kernel
theorem dX8_meet_35 : decode cX8_meet 35 = .ok (.getfield 106, 3) := by decide +kernel
theorem dX8_meet_38 : decode cX8_meet 38 = .ok (.ifCond .ne 14, 3) := by decide +kernel
theorem dX8_meet_41 : decode cX8_meet 41 = .ok (.aload_n 0, 1) := by decide +kernel
theorem dX8_meet_42 : decode cX8_meet 42 = .ok (.getfield 41, 3) := by decide +kernel
theorem dX8_meet_45 : decode cX8_meet 45 = .ok (.aload_n 2, 1) := by decide +kernel
theorem dX8_meet_46 : decode cX8_meet 46 = .ok (.getfield 89, 3) := by decide +kernel
theorem dX8_meet_49 : decode cX8_meet 49 = .ok (.invokevirtual 109, 3) := by decide +kernel
theorem dX8_meet_52 : decode cX8_meet 52 = .ok (.aload_n 2, 1) := by decide +kernel
theorem dX8_meet_53 : decode cX8_meet 53 = .ok (.aload_n 1, 1) := by decide +kernel
theorem dX8_meet_54 : decode cX8_meet 54 = .ok (.getfield 112, 3) := by decide +kernel
theorem dX8_meet_57 : decode cX8_meet 57 = .ok (.invokevirtual 117, 3) := by decide +kernel
theorem dX8_meet_60 : decode cX8_meet 60 = .ok (.iconst 0, 1) := by decide +kernel
theorem dX8_meet_61 : decode cX8_meet 61 = .ok (.istore_n 3, 1) := by decide +kernel
theorem dX8_meet_62 : decode cX8_meet 62 = .ok (.iload_n 3, 1) := by decide +kernel
theorem dX8_meet_63 : decode cX8_meet 63 = .ok (.aload_n 1, 1) := by decide +kernel
theorem dX8_meet_64 : decode cX8_meet 64 = .ok (.getfield 120, 3) := by decide +kernel
theorem dX8_meet_67 : decode cX8_meet 67 = .ok (.getfield 124, 3) := by decide +kernel
theorem dX8_meet_70 : decode cX8_meet 70 = .ok (.if_icmp .ge 38, 3) := by decide +kernel
theorem dX8_meet_73 : decode cX8_meet 73 = .ok (.aload_n 2, 1) := by decide +kernel
theorem dX8_meet_74 : decode cX8_meet 74 = .ok (.getfield 81, 3) := by decide +kernel
theorem dX8_meet_77 : decode cX8_meet 77 = .ok (.ifCond .eq 31, 3) := by decide +kernel
theorem dX8_meet_80 : decode cX8_meet 80 = .ok (.aload_n 1, 1) := by decide +kernel
theorem dX8_meet_81 : decode cX8_meet 81 = .ok (.getfield 120, 3) := by decide +kernel
theorem dX8_meet_84 : decode cX8_meet 84 = .ok (.iload_n 3, 1) := by decide +kernel
theorem dX8_meet_85 : decode cX8_meet 85 = .ok (.aload_n 2, 1) := by decide +kernel
theorem dX8_meet_86 : decode cX8_meet 86 = .ok (.getfield 89, 3) := by decide +kernel
theorem dX8_meet_89 : decode cX8_meet 89 = .ok (.invokevirtual 129, 3) := by decide +kernel
theorem dX8_meet_92 : decode cX8_meet 92 = .ok (.ifCond .eq 10, 3) := by decide +kernel
theorem dX8_meet_95 : decode cX8_meet 95 = .ok (.aload_n 0, 1) := by decide +kernel
theorem dX8_meet_96 : decode cX8_meet 96 = .ok (.aload_n 1, 1) := by decide +kernel
theorem dX8_meet_97 : decode cX8_meet 97 = .ok (.iload_n 3, 1) := by decide +kernel
theorem dX8_meet_98 : decode cX8_meet 98 = .ok (.aload_n 2, 1) := by decide +kernel
theorem dX8_meet_99 : decode cX8_meet 99 = .ok (.invokevirtual 133, 3) := by decide +kernel
theorem dX8_meet_102 : decode cX8_meet 102 = .ok (.iinc 3 1, 3) := by decide +kernel
theorem dX8_meet_105 : decode cX8_meet 105 = .ok (.goto (-43), 3) := by decide +kernel
theorem dX8_meet_108 : decode cX8_meet 108 = .ok (.aload_n 2, 1) := by decide +kernel
theorem dX8_meet_109 : decode cX8_meet 109 = .ok (.getfield 137, 3) := by decide +kernel
theorem dX8_meet_112 : decode cX8_meet 112 = .ok (.aload_n 1, 1) := by decide +kernel
theorem dX8_meet_113 : decode cX8_meet 113 = .ok (.getfield 140, 3) := by decide +kernel
theorem dX8_meet_116 : decode cX8_meet 116 = .ok (.if_icmp .ge 8, 3) := by decide +kernel
theorem dX8_meet_119 : decode cX8_meet 119 = .ok (.aload_n 2, 1) := by decide +kernel
theorem dX8_meet_120 : decode cX8_meet 120 = .ok (.iconst 0, 1) := by decide +kernel
theorem dX8_meet_121 : decode cX8_meet 121 = .ok (.putfield 81, 3) := by decide +kernel
theorem dX8_meet_124 : decode cX8_meet 124 = .ok (.aload_n 2, 1) := by decide +kernel
theorem dX8_meet_125 : decode cX8_meet 125 = .ok (.getfield 81, 3) := by decide +kernel
theorem dX8_meet_128 : decode cX8_meet 128 = .ok (.ifCond .eq 20, 3) := by decide +kernel
theorem dX8_meet_131 : decode cX8_meet 131 = .ok (.aload_n 2, 1) := by decide +kernel
theorem dX8_meet_132 : decode cX8_meet 132 = .ok (.dup, 1) := by decide +kernel
theorem dX8_meet_133 : decode cX8_meet 133 = .ok (.getfield 85, 3) := by decide +kernel
theorem dX8_meet_136 : decode cX8_meet 136 = .ok (.aload_n 2, 1) := by decide +kernel
theorem dX8_meet_137 : decode cX8_meet 137 = .ok (.getfield 92, 3) := by decide +kernel
theorem dX8_meet_140 : decode cX8_meet 140 = .ok (.invokestatic 60, 3) := by decide +kernel
theorem dX8_meet_143 : decode cX8_meet 143 = .ok (.i2l, 1) := by decide +kernel
theorem dX8_meet_144 : decode cX8_meet 144 = .ok (.ladd, 1) := by decide +kernel
theorem dX8_meet_145 : decode cX8_meet 145 = .ok (.putfield 85, 3) := by decide +kernel
theorem dX8_meet_148 : decode cX8_meet 148 = .ok (.return_, 1) := by decide +kernel
set_option maxRecDepth 20000 in
theorem ggX8_act_X4_numberOf : GoodIn wsX8_act wsX4_numberOf := goodIn_r _ [7, 8, 9, 10, 11, 12, 6, 13, 14, 95, 96] (by decide +kernel) (by decide +kernel)
set_option maxRecDepth 20000 in
theorem gX8_act_X4_numberOf : GoodIn wsX8_act (wsV RX8 143 RX4 yX4_numberOf wsX4_numberOf) := goodIn_app (goodIn_of _ (by decide +kernel)) ggX8_act_X4_numberOf
set_option maxRecDepth 20000 in
theorem ggX8_act_X7_lose : GoodIn wsX8_act wsX7_lose := goodIn_r _ [19, 20, 83, 84, 85, 86, 87, 88] (by decide +kernel) (by decide +kernel)
set_option maxRecDepth 20000 in
theorem gX8_act_X7_lose : GoodIn wsX8_act (wsV RX8 117 RX7 yX7_lose wsX7_lose) := goodIn_app (goodIn_of _ (by decide +kernel)) ggX8_act_X7_lose
set_option maxRecDepth 20000 in
theorem ggX8_act_X7_tilt : GoodIn wsX8_act wsX7_tilt := goodIn_r _ [24, 25, 26, 27, 28, 29, 30, 31, 32, 33, 34, 83, 84, 85, 86, 87, 88] (by decide +kernel) (by decide +kernel)
set_option maxRecDepth 20000 in
theorem gX8_act_X7_tilt : GoodIn wsX8_act (wsV RX8 146 RX7 yX7_tilt wsX7_tilt) := goodIn_app (goodIn_of _ (by decide +kernel)) ggX8_act_X7_tilt
set_option maxRecDepth 20000 in
theorem ggX8_act_X8_split : GoodIn wsX8_act wsX8_split := goodIn_r _ [39, 40, 28, 29, 30, 31, 32, 33, 34, 41, 42, 43, 44, 45, 46, 47, 48, 49, 50, 51, 52, 53, 38, 54, 55, 56, 57, 58, 59, 18, 60, 61, 25, 20, 62, 26, 83, 84, 85, 86, 87, 88, 89, 90, 91, 92, 93, 94] (by decide +kernel) (by decide +kernel)
set_option maxRecDepth 20000 in
theorem gX8_act_X8_split : GoodIn wsX8_act (wsV RX8 149 RX8 yX8_split wsX8_split) := goodIn_app (goodIn_of _ (by decide +kernel)) ggX8_act_X8_split
set_option maxRecDepth 20000 in
theorem ggX8_act_X1_hear : GoodIn wsX8_act wsX1_hear := goodIn_r _ [67, 68, 69, 70, 33, 71, 97, 83, 84, 85, 86, 87, 88] (by decide +kernel) (by decide +kernel)
set_option maxRecDepth 20000 in
theorem gX8_act_X1_hear : GoodIn wsX8_act (wsV RX8 153 RX1 yX1_hear wsX1_hear) := goodIn_app (goodIn_of _ (by decide +kernel)) ggX8_act_X1_hear
set_option maxRecDepth 20000 in
theorem ggX8_act_X3_noteEcho : GoodIn wsX8_act wsX3_noteEcho := goodIn_r _ [76, 77, 78, 79, 98, 99, 100, 101, 102] (by decide +kernel) (by decide +kernel)
set_option maxRecDepth 20000 in
theorem gX8_act_X3_noteEcho : GoodIn wsX8_act (wsV RX8 157 RX3 yX3_noteEcho wsX3_noteEcho) := goodIn_app (goodIn_of _ (by decide +kernel)) ggX8_act_X3_noteEcho
theorem dX8_act_0 : decode cX8_act 0 = .ok (.aload_n 1, 1) := by decide +kernel
theorem dX8_act_1 : decode cX8_act 1 = .ok (.getfield 120, 3) := by decide +kernel
theorem dX8_act_4 : decode cX8_act 4 = .ok (.iload_n 2, 1) := by decide +kernel
theorem dX8_act_5 : decode cX8_act 5 = .ok (.iconst 3, 1) := by decide +kernel
theorem dX8_act_6 : decode cX8_act 6 = .ok (.invokevirtual 143, 3) := by decide +kernel
theorem dX8_act_9 : decode cX8_act 9 = .ok (.istore 4, 2) := by decide +kernel
theorem dX8_act_11 : decode cX8_act 11 = .ok (.aload_n 1, 1) := by decide +kernel
theorem dX8_act_12 : decode cX8_act 12 = .ok (.getfield 120, 3) := by decide +kernel
theorem dX8_act_15 : decode cX8_act 15 = .ok (.iload_n 2, 1) := by decide +kernel
theorem dX8_act_16 : decode cX8_act 16 = .ok (.iconst 0, 1) := by decide +kernel
theorem dX8_act_17 : decode cX8_act 17 = .ok (.invokevirtual 143, 3) := by decide +kernel
theorem dX8_act_20 : decode cX8_act 20 = .ok (.tableswitch 76 0 3 #[32, 41, 53, 62], 32) := by decide +kernel
theorem dX8_act_52 : decode cX8_act 52 = .ok (.aload_n 3, 1) := by decide +kernel
theorem dX8_act_53 : decode cX8_act 53 = .ok (.iload 4, 2) := by decide +kernel
theorem dX8_act_55 : decode cX8_act 55 = .ok (.invokevirtual 117, 3) := by decide +kernel
theorem dX8_act_58 : decode cX8_act 58 = .ok (.goto 54, 3) := by decide +kernel
theorem dX8_act_61 : decode cX8_act 61 = .ok (.aload_n 3, 1) := by decide +kernel
theorem dX8_act_62 : decode cX8_act 62 = .ok (.aload_n 3, 1) := by decide +kernel
theorem dX8_act_63 : decode cX8_act 63 = .ok (.getfield 92, 3) := by decide +kernel
theorem dX8_act_66 : decode cX8_act 66 = .ok (.ineg, 1) := by decide +kernel
theorem dX8_act_67 : decode cX8_act 67 = .ok (.putfield 92, 3) := by decide +kernel
theorem dX8_act_70 : decode cX8_act 70 = .ok (.goto 42, 3) := by decide +kernel
theorem dX8_act_73 : decode cX8_act 73 = .ok (.aload_n 3, 1) := by decide +kernel
theorem dX8_act_74 : decode cX8_act 74 = .ok (.iload 4, 2) := by decide +kernel
theorem dX8_act_76 : decode cX8_act 76 = .ok (.invokevirtual 146, 3) := by decide +kernel
theorem dX8_act_79 : decode cX8_act 79 = .ok (.goto 33, 3) := by decide +kernel
theorem dX8_act_82 : decode cX8_act 82 = .ok (.aload_n 0, 1) := by decide +kernel
theorem dX8_act_83 : decode cX8_act 83 = .ok (.aload_n 3, 1) := by decide +kernel
theorem dX8_act_84 : decode cX8_act 84 = .ok (.iload 4, 2) := by decide +kernel
theorem dX8_act_86 : decode cX8_act 86 = .ok (.aload_n 1, 1) := by decide +kernel
theorem dX8_act_87 : decode cX8_act 87 = .ok (.getfield 140, 3) := by decide +kernel
theorem dX8_act_90 : decode cX8_act 90 = .ok (.invokevirtual 149, 3) := by decide +kernel
theorem dX8_act_93 : decode cX8_act 93 = .ok (.goto 19, 3) := by decide +kernel
theorem dX8_act_96 : decode cX8_act 96 = .ok (.aload_n 0, 1) := by decide +kernel
theorem dX8_act_97 : decode cX8_act 97 = .ok (.getfield 34, 3) := by decide +kernel
theorem dX8_act_100 : decode cX8_act 100 = .ok (.iload_n 2, 1) := by decide +kernel
theorem dX8_act_101 : decode cX8_act 101 = .ok (.aload_n 3, 1) := by decide +kernel
theorem dX8_act_102 : decode cX8_act 102 = .ok (.invokevirtual 153, 3) := by decide +kernel
theorem dX8_act_105 : decode cX8_act 105 = .ok (.aload_n 0, 1) := by decide +kernel
theorem dX8_act_106 : decode cX8_act 106 = .ok (.getfield 20, 3) := by decide +kernel
theorem dX8_act_109 : decode cX8_act 109 = .ok (.invokevirtual 157, 3) := by decide +kernel
theorem dX8_act_112 : decode cX8_act 112 = .ok (.return_, 1) := by decide +kernel
set_option maxRecDepth 20000 in
theorem ggX8_split_X0_tilted : GoodIn wsX8_split wsX0_tilted := goodIn_r _ [4, 5, 6, 7, 8] (by decide +kernel) (by decide +kernel)
set_option maxRecDepth 20000 in
theorem gX8_split_X0_tilted : GoodIn wsX8_split (va_wsS RX8 160 yX0_tilted wsX0_tilted) := goodIn_app (goodIn_of _ (by decide +kernel)) ggX8_split_X0_tilted
set_option maxRecDepth 20000 in
theorem ggX8_split_X0_chordTime : GoodIn wsX8_split wsX0_chordTime := goodIn_r _ [11, 12, 5, 6, 7, 8, 13, 14, 3, 15, 16, 17, 18] (by decide +kernel) (by decide +kernel)
set_option maxRecDepth 20000 in
theorem gX8_split_X0_chordTime : GoodIn wsX8_split (va_wsS RX8 60 yX0_chordTime wsX0_chordTime) := goodIn_app (goodIn_of _ (by decide +kernel)) ggX8_split_X0_chordTime
set_option maxRecDepth 20000 in
theorem ggX8_split_X8_begin : GoodIn wsX8_split wsX8_begin := goodIn_r _ [23, 24, 25, 26, 27, 28, 29, 30, 31, 32, 33, 34, 35, 42, 43, 44, 45, 46, 47, 36, 37, 38, 39, 40, 41] (by decide +kernel) (by decide +kernel)
set_option maxRecDepth 20000 in
theorem gX8_split_X8_begin : GoodIn wsX8_split (wsV RX8 66 RX8 yX8_begin wsX8_begin) := goodIn_app (goodIn_of _ (by decide +kernel)) ggX8_split_X8_begin
theorem dX8_split_0 : decode cX8_split 0 = .ok (.aload_n 1, 1) := by decide +kernel
theorem dX8_split_1 : decode cX8_split 1 = .ok (.getfield 137, 3) := by decide +kernel
theorem dX8_split_4 : decode cX8_split 4 = .ok (.iconst 2, 1) := by decide +kernel
theorem dX8_split_5 : decode cX8_split 5 = .ok (.idiv, 1) := by decide +kernel
theorem dX8_split_6 : decode cX8_split 6 = .ok (.istore 4, 2) := by decide +kernel
theorem dX8_split_8 : decode cX8_split 8 = .ok (.aload_n 1, 1) := by decide +kernel
theorem dX8_split_9 : decode cX8_split 9 = .ok (.getfield 92, 3) := by decide +kernel
theorem dX8_split_12 : decode cX8_split 12 = .ok (.iload_n 2, 1) := by decide +kernel
theorem dX8_split_13 : decode cX8_split 13 = .ok (.invokestatic 160, 3) := by decide +kernel
theorem dX8_split_16 : decode cX8_split 16 = .ok (.istore 5, 2) := by decide +kernel
theorem dX8_split_18 : decode cX8_split 18 = .ok (.aload_n 1, 1) := by decide +kernel
theorem dX8_split_19 : decode cX8_split 19 = .ok (.dup, 1) := by decide +kernel
theorem dX8_split_20 : decode cX8_split 20 = .ok (.getfield 137, 3) := by decide +kernel
theorem dX8_split_23 : decode cX8_split 23 = .ok (.iload 4, 2) := by decide +kernel
theorem dX8_split_25 : decode cX8_split 25 = .ok (.isub, 1) := by decide +kernel
theorem dX8_split_26 : decode cX8_split 26 = .ok (.putfield 137, 3) := by decide +kernel
theorem dX8_split_29 : decode cX8_split 29 = .ok (.iload 5, 2) := by decide +kernel
theorem dX8_split_31 : decode cX8_split 31 = .ok (.ifCond .eq 32, 3) := by decide +kernel
theorem dX8_split_34 : decode cX8_split 34 = .ok (.iload 4, 2) := by decide +kernel
theorem dX8_split_36 : decode cX8_split 36 = .ok (.iload_n 3, 1) := by decide +kernel
theorem dX8_split_37 : decode cX8_split 37 = .ok (.if_icmp .lt 26, 3) := by decide +kernel
theorem dX8_split_40 : decode cX8_split 40 = .ok (.aload_n 0, 1) := by decide +kernel
theorem dX8_split_41 : decode cX8_split 41 = .ok (.aload_n 1, 1) := by decide +kernel
theorem dX8_split_42 : decode cX8_split 42 = .ok (.getfield 89, 3) := by decide +kernel
theorem dX8_split_45 : decode cX8_split 45 = .ok (.iload 5, 2) := by decide +kernel
theorem dX8_split_47 : decode cX8_split 47 = .ok (.iload 4, 2) := by decide +kernel
theorem dX8_split_49 : decode cX8_split 49 = .ok (.aload_n 1, 1) := by decide +kernel
theorem dX8_split_50 : decode cX8_split 50 = .ok (.getfield 85, 3) := by decide +kernel
theorem dX8_split_53 : decode cX8_split 53 = .ok (.iload 5, 2) := by decide +kernel
theorem dX8_split_55 : decode cX8_split 55 = .ok (.invokestatic 60, 3) := by decide +kernel
theorem dX8_split_58 : decode cX8_split 58 = .ok (.i2l, 1) := by decide +kernel
theorem dX8_split_59 : decode cX8_split 59 = .ok (.ladd, 1) := by decide +kernel
theorem dX8_split_60 : decode cX8_split 60 = .ok (.invokevirtual 66, 3) := by decide +kernel
theorem dX8_split_63 : decode cX8_split 63 = .ok (.return_, 1) := by decide +kernel
set_option maxRecDepth 20000 in
theorem ggX9_init_X4_init : GoodIn wsX9_init wsX4_init := goodIn_r _ [11, 12, 2, 3, 13, 14, 21, 22] (by decide +kernel) (by decide +kernel)
set_option maxRecDepth 20000 in
theorem gX9_init_X4_init_n17 : GoodIn wsX9_init (wsX4_init) := ggX9_init_X4_init
theorem dX9_init_0 : decode cX9_init 0 = .ok (.aload_n 0, 1) := by decide +kernel
theorem dX9_init_1 : decode cX9_init 1 = .ok (.invokespecial 3, 3) := by decide +kernel
theorem dX9_init_4 : decode cX9_init 4 = .ok (.aload_n 0, 1) := by decide +kernel
theorem dX9_init_5 : decode cX9_init 5 = .ok (.bipush 60, 2) := by decide +kernel
theorem dX9_init_7 : decode cX9_init 7 = .ok (.newarray .char, 2) := by decide +kernel
theorem dX9_init_9 : decode cX9_init 9 = .ok (.putfield 9, 3) := by decide +kernel
theorem dX9_init_12 : decode cX9_init 12 = .ok (.aload_n 0, 1) := by decide +kernel
theorem dX9_init_13 : decode cX9_init 13 = .ok (.new 15, 3) := by decide +kernel
theorem dX9_init_16 : decode cX9_init 16 = .ok (.dup, 1) := by decide +kernel
theorem dX9_init_17 : decode cX9_init 17 = .ok (.invokespecial 17, 3) := by decide +kernel
theorem dX9_init_20 : decode cX9_init 20 = .ok (.putfield 18, 3) := by decide +kernel
theorem dX9_init_23 : decode cX9_init 23 = .ok (.return_, 1) := by decide +kernel
theorem dX9_append_0 : decode cX9_append 0 = .ok (.aload_n 0, 1) := by decide +kernel
theorem dX9_append_1 : decode cX9_append 1 = .ok (.getfield 22, 3) := by decide +kernel
theorem dX9_append_4 : decode cX9_append 4 = .ok (.bipush 60, 2) := by decide +kernel
theorem dX9_append_6 : decode cX9_append 6 = .ok (.if_icmp .ge 23, 3) := by decide +kernel
theorem dX9_append_9 : decode cX9_append 9 = .ok (.aload_n 0, 1) := by decide +kernel
theorem dX9_append_10 : decode cX9_append 10 = .ok (.getfield 9, 3) := by decide +kernel
theorem dX9_append_13 : decode cX9_append 13 = .ok (.aload_n 0, 1) := by decide +kernel
theorem dX9_append_14 : decode cX9_append 14 = .ok (.getfield 22, 3) := by decide +kernel
theorem dX9_append_17 : decode cX9_append 17 = .ok (.iload_n 1, 1) := by decide +kernel
theorem dX9_append_18 : decode cX9_append 18 = .ok (.castore, 1) := by decide +kernel
theorem dX9_append_19 : decode cX9_append 19 = .ok (.aload_n 0, 1) := by decide +kernel
theorem dX9_append_20 : decode cX9_append 20 = .ok (.dup, 1) := by decide +kernel
theorem dX9_append_21 : decode cX9_append 21 = .ok (.getfield 22, 3) := by decide +kernel
theorem dX9_append_24 : decode cX9_append 24 = .ok (.iconst 1, 1) := by decide +kernel
theorem dX9_append_25 : decode cX9_append 25 = .ok (.iadd, 1) := by decide +kernel
theorem dX9_append_26 : decode cX9_append 26 = .ok (.putfield 22, 3) := by decide +kernel
theorem dX9_append_29 : decode cX9_append 29 = .ok (.return_, 1) := by decide +kernel
theorem dX9_signAt_0 : decode cX9_signAt 0 = .ok (.iload_n 1, 1) := by decide +kernel
theorem dX9_signAt_1 : decode cX9_signAt 1 = .ok (.ifCond .lt 20, 3) := by decide +kernel
theorem dX9_signAt_4 : decode cX9_signAt 4 = .ok (.iload_n 1, 1) := by decide +kernel
theorem dX9_signAt_5 : decode cX9_signAt 5 = .ok (.aload_n 0, 1) := by decide +kernel
theorem dX9_signAt_6 : decode cX9_signAt 6 = .ok (.getfield 22, 3) := by decide +kernel
theorem dX9_signAt_9 : decode cX9_signAt 9 = .ok (.if_icmp .ge 12, 3) := by decide +kernel
theorem dX9_signAt_12 : decode cX9_signAt 12 = .ok (.aload_n 0, 1) := by decide +kernel
theorem dX9_signAt_13 : decode cX9_signAt 13 = .ok (.getfield 9, 3) := by decide +kernel
theorem dX9_signAt_16 : decode cX9_signAt 16 = .ok (.iload_n 1, 1) := by decide +kernel
theorem dX9_signAt_17 : decode cX9_signAt 17 = .ok (.caload, 1) := by decide +kernel
theorem dX9_signAt_18 : decode cX9_signAt 18 = .ok (.goto 4, 3) := by decide +kernel
theorem dX9_signAt_21 : decode cX9_signAt 21 = .ok (.iconst 0, 1) := by decide +kernel
theorem dX9_signAt_22 : decode cX9_signAt 22 = .ok (.ireturn, 1) := by decide +kernel
set_option maxRecDepth 20000 in
theorem ggX9_errorPlace_X9_readOne : GoodIn wsX9_errorPlace wsX9_readOne := goodIn_r _ [10, 3, 4, 1, 11, 12, 13, 9, 14, 2, 15, 16, 17, 18, 19, 20, 21, 22, 23, 24, 25, 26, 27, 28, 29, 30, 31, 32, 33, 34, 35, 36, 37, 38, 39, 40, 41, 42, 5, 43, 44, 45, 46, 47, 48, 49, 50, 51, 52, 53, 54, 55, 56, 57, 58, 59, 60, 61, 62, 63, 64, 65, 66, 67, 68, 69, 70, 71, 72, 73, 74, 75, 76, 77, 78, 79, 80, 81, 82, 83, 84, 85, 86, 87, 88, 89, 90, 91, 92, 93, 94, 95, 96, 97, 98, 99, 100, 101, 102, 103, 104, 105, 106, 107, 108, 109, 110, 111, 112, 113, 114, 115, 116, 117, 118] (by decide +kernel) (by decide +kernel)
set_option maxRecDepth 20000 in
theorem gX9_errorPlace_X9_readOne : GoodIn wsX9_errorPlace (wsV RX9 39 RX9 yX9_readOne wsX9_readOne) := goodIn_app (goodIn_of _ (by decide +kernel)) ggX9_errorPlace_X9_readOne
set_option maxRecDepth 20000 in
theorem ggX9_errorPlace_X9_take : GoodIn wsX9_errorPlace wsX9_take := goodIn_r _ [84, 3, 2, 39, 40, 41, 9, 42, 5, 43, 111, 112, 113, 114, 115, 116] (by decide +kernel) (by decide +kernel)
set_option maxRecDepth 20000 in
theorem gX9_errorPlace_X9_take : GoodIn wsX9_errorPlace (wsV RX9 42 RX9 yX9_take wsX9_take) := goodIn_app (goodIn_of _ (by decide +kernel)) ggX9_errorPlace_X9_take
theorem dX9_errorPlace_0 : decode cX9_errorPlace 0 = .ok (.aload_n 0, 1) := by decide +kernel
theorem dX9_errorPlace_1 : decode cX9_errorPlace 1 = .ok (.getfield 18, 3) := by decide +kernel
theorem dX9_errorPlace_4 : decode cX9_errorPlace 4 = .ok (.iconst 0, 1) := by decide +kernel
theorem dX9_errorPlace_5 : decode cX9_errorPlace 5 = .ok (.putfield 26, 3) := by decide +kernel
theorem dX9_errorPlace_8 : decode cX9_errorPlace 8 = .ok (.aload_n 0, 1) := by decide +kernel
theorem dX9_errorPlace_9 : decode cX9_errorPlace 9 = .ok (.iconst 0, 1) := by decide +kernel
theorem dX9_errorPlace_10 : decode cX9_errorPlace 10 = .ok (.putfield 29, 3) := by decide +kernel
theorem dX9_errorPlace_13 : decode cX9_errorPlace 13 = .ok (.aload_n 0, 1) := by decide +kernel
theorem dX9_errorPlace_14 : decode cX9_errorPlace 14 = .ok (.iconst 0, 1) := by decide +kernel
theorem dX9_errorPlace_15 : decode cX9_errorPlace 15 = .ok (.putfield 32, 3) := by decide +kernel
theorem dX9_errorPlace_18 : decode cX9_errorPlace 18 = .ok (.aload_n 0, 1) := by decide +kernel
theorem dX9_errorPlace_19 : decode cX9_errorPlace 19 = .ok (.iconst (-1), 1) := by decide +kernel
theorem dX9_errorPlace_20 : decode cX9_errorPlace 20 = .ok (.putfield 36, 3) := by decide +kernel
theorem dX9_errorPlace_23 : decode cX9_errorPlace 23 = .ok (.aload_n 0, 1) := by decide +kernel
theorem dX9_errorPlace_24 : decode cX9_errorPlace 24 = .ok (.invokevirtual 39, 3) := by decide +kernel
theorem dX9_errorPlace_27 : decode cX9_errorPlace 27 = .ok (.iconst 0, 1) := by decide +kernel
theorem dX9_errorPlace_28 : decode cX9_errorPlace 28 = .ok (.istore_n 1, 1) := by decide +kernel
theorem dX9_errorPlace_29 : decode cX9_errorPlace 29 = .ok (.iload_n 1, 1) := by decide +kernel
theorem dX9_errorPlace_30 : decode cX9_errorPlace 30 = .ok (.bipush 60, 2) := by decide +kernel
theorem dX9_errorPlace_32 : decode cX9_errorPlace 32 = .ok (.if_icmp .ge 37, 3) := by decide +kernel
theorem dX9_errorPlace_35 : decode cX9_errorPlace 35 = .ok (.aload_n 0, 1) := by decide +kernel
theorem dX9_errorPlace_36 : decode cX9_errorPlace 36 = .ok (.getfield 32, 3) := by decide +kernel
theorem dX9_errorPlace_39 : decode cX9_errorPlace 39 = .ok (.ifCond .ne 30, 3) := by decide +kernel
theorem dX9_errorPlace_42 : decode cX9_errorPlace 42 = .ok (.aload_n 0, 1) := by decide +kernel
theorem dX9_errorPlace_43 : decode cX9_errorPlace 43 = .ok (.getfield 29, 3) := by decide +kernel
theorem dX9_errorPlace_46 : decode cX9_errorPlace 46 = .ok (.aload_n 0, 1) := by decide +kernel
theorem dX9_errorPlace_47 : decode cX9_errorPlace 47 = .ok (.getfield 22, 3) := by decide +kernel
theorem dX9_errorPlace_50 : decode cX9_errorPlace 50 = .ok (.if_icmp .ge 19, 3) := by decide +kernel
theorem dX9_errorPlace_53 : decode cX9_errorPlace 53 = .ok (.aload_n 0, 1) := by decide +kernel
theorem dX9_errorPlace_54 : decode cX9_errorPlace 54 = .ok (.bipush 59, 2) := by decide +kernel
theorem dX9_errorPlace_56 : decode cX9_errorPlace 56 = .ok (.invokevirtual 42, 3) := by decide +kernel
theorem dX9_errorPlace_59 : decode cX9_errorPlace 59 = .ok (.aload_n 0, 1) := by decide +kernel
theorem dX9_errorPlace_60 : decode cX9_errorPlace 60 = .ok (.invokevirtual 39, 3) := by decide +kernel
theorem dX9_errorPlace_63 : decode cX9_errorPlace 63 = .ok (.iinc 1 1, 3) := by decide +kernel
theorem dX9_errorPlace_66 : decode cX9_errorPlace 66 = .ok (.goto (-37), 3) := by decide +kernel
theorem dX9_errorPlace_69 : decode cX9_errorPlace 69 = .ok (.aload_n 0, 1) := by decide +kernel
theorem dX9_errorPlace_70 : decode cX9_errorPlace 70 = .ok (.getfield 32, 3) := by decide +kernel
theorem dX9_errorPlace_73 : decode cX9_errorPlace 73 = .ok (.ifCond .eq 10, 3) := by decide +kernel
theorem dX9_errorPlace_76 : decode cX9_errorPlace 76 = .ok (.aload_n 0, 1) := by decide +kernel
theorem dX9_errorPlace_77 : decode cX9_errorPlace 77 = .ok (.getfield 29, 3) := by decide +kernel
theorem dX9_errorPlace_80 : decode cX9_errorPlace 80 = .ok (.goto 7, 3) := by decide +kernel
theorem dX9_errorPlace_83 : decode cX9_errorPlace 83 = .ok (.aload_n 0, 1) := by decide +kernel
theorem dX9_errorPlace_84 : decode cX9_errorPlace 84 = .ok (.getfield 36, 3) := by decide +kernel
theorem dX9_errorPlace_87 : decode cX9_errorPlace 87 = .ok (.ireturn, 1) := by decide +kernel
set_option maxRecDepth 20000 in
theorem ggX9_readOne_X9_takeWord : GoodIn wsX9_readOne wsX9_takeWord := goodIn_r _ [8, 1, 9, 10, 11, 12, 13, 14, 15, 16, 17, 18, 19, 20, 7, 21, 22, 23, 24, 25, 26, 27, 28, 29, 30, 31, 32, 33, 34, 35, 36, 37, 38, 39, 40, 41, 42, 43, 44, 45, 46, 47, 48, 49, 50, 51, 52, 53, 54, 55, 56, 57, 58, 59, 60, 61, 62, 63, 64, 65, 66, 67, 68, 69, 70, 71, 72, 73, 74, 75, 76, 107, 108, 109, 110, 111, 112] (by decide +kernel) (by decide +kernel)
set_option maxRecDepth 20000 in
theorem gX9_readOne_X9_takeWord : GoodIn wsX9_readOne (wsV RX9 46 RX9 yX9_takeWord wsX9_takeWord) := goodIn_app (goodIn_of _ (by decide +kernel)) ggX9_readOne_X9_takeWord
set_option maxRecDepth 20000 in
theorem ggX9_readOne_X9_take : GoodIn wsX9_readOne wsX9_take := goodIn_r _ [80, 1, 9, 34, 35, 36, 7, 37, 38, 39, 107, 108, 109, 110, 111, 112] (by decide +kernel) (by decide +kernel)
set_option maxRecDepth 20000 in
theorem gX9_readOne_X9_take : GoodIn wsX9_readOne (wsV RX9 42 RX9 yX9_take wsX9_take) := goodIn_app (goodIn_of _ (by decide +kernel)) ggX9_readOne_X9_take
set_option maxRecDepth 20000 in
theorem ggX9_readOne_X9_takeNumber : GoodIn wsX9_readOne wsX9_takeNumber := goodIn_r _ [84, 1, 9, 2, 34, 35, 36, 7, 37, 38, 39, 85, 86, 87, 107, 108, 109, 110, 111, 112] (by decide +kernel) (by decide +kernel)
set_option maxRecDepth 20000 in
theorem gX9_readOne_X9_takeNumber : GoodIn wsX9_readOne (wsV RX9 50 RX9 yX9_takeNumber wsX9_takeNumber) := goodIn_app (goodIn_of _ (by decide +kernel)) ggX9_readOne_X9_takeNumber
set_option maxRecDepth 20000 in
theorem ggX9_readOne_X4_hasBy : GoodIn wsX9_readOne wsX4_hasBy := goodIn_r _ [90, 91, 92, 16, 93] (by decide +kernel) (by decide +kernel)
set_option maxRecDepth 20000 in
theorem gX9_readOne_X4_hasBy : GoodIn wsX9_readOne (va_wsS RX9 54 yX4_hasBy wsX4_hasBy) := goodIn_app (goodIn_of _ (by decide +kernel)) ggX9_readOne_X4_hasBy
set_option maxRecDepth 20000 in
theorem ggX9_readOne_X4_leastBy : GoodIn wsX9_readOne wsX4_leastBy := goodIn_r _ [96, 91, 92, 16, 93] (by decide +kernel) (by decide +kernel)
set_option maxRecDepth 20000 in
theorem gX9_readOne_X4_leastBy : GoodIn wsX9_readOne (va_wsS RX9 58 yX4_leastBy wsX4_leastBy) := goodIn_app (goodIn_of _ (by decide +kernel)) ggX9_readOne_X4_leastBy
set_option maxRecDepth 20000 in
theorem ggX9_readOne_X4_mostBy : GoodIn wsX9_readOne wsX4_mostBy := goodIn_r _ [99, 91, 92, 16, 93] (by decide +kernel) (by decide +kernel)
set_option maxRecDepth 20000 in
theorem gX9_readOne_X4_mostBy : GoodIn wsX9_readOne (va_wsS RX9 62 yX4_mostBy wsX4_mostBy) := goodIn_app (goodIn_of _ (by decide +kernel)) ggX9_readOne_X4_mostBy
set_option maxRecDepth 20000 in
theorem ggX9_readOne_X4_mayBeNegative : GoodIn wsX9_readOne wsX4_mayBeNegative := goodIn_r _ [93] (by decide +kernel) (by decide +kernel)
set_option maxRecDepth 20000 in
theorem gX9_readOne_X4_mayBeNegative : GoodIn wsX9_readOne (va_wsS RX9 65 yX4_mayBeNegative wsX4_mayBeNegative) := goodIn_app (goodIn_of _ (by decide +kernel)) ggX9_readOne_X4_mayBeNegative
set_option maxRecDepth 20000 in
theorem ggX9_readOne_X4_append : GoodIn wsX9_readOne wsX4_append := goodIn_r _ [104, 105, 106, 113, 114] (by decide +kernel) (by decide +kernel)
set_option maxRecDepth 20000 in
theorem gX9_readOne_X4_append : GoodIn wsX9_readOne (wsV RX9 68 RX4 yX4_append wsX4_append) := goodIn_app (goodIn_of _ (by decide +kernel)) ggX9_readOne_X4_append
theorem dX9_readOne_0 : decode cX9_readOne 0 = .ok (.aload_n 0, 1) := by decide +kernel
theorem dX9_readOne_1 : decode cX9_readOne 1 = .ok (.invokevirtual 46, 3) := by decide +kernel
theorem dX9_readOne_4 : decode cX9_readOne 4 = .ok (.istore_n 1, 1) := by decide +kernel
theorem dX9_readOne_5 : decode cX9_readOne 5 = .ok (.aload_n 0, 1) := by decide +kernel
theorem dX9_readOne_6 : decode cX9_readOne 6 = .ok (.bipush 58, 2) := by decide +kernel
theorem dX9_readOne_8 : decode cX9_readOne 8 = .ok (.invokevirtual 42, 3) := by decide +kernel
theorem dX9_readOne_11 : decode cX9_readOne 11 = .ok (.aload_n 0, 1) := by decide +kernel
theorem dX9_readOne_12 : decode cX9_readOne 12 = .ok (.iconst 0, 1) := by decide +kernel
theorem dX9_readOne_13 : decode cX9_readOne 13 = .ok (.sipush 27719, 3) := by decide +kernel
theorem dX9_readOne_16 : decode cX9_readOne 16 = .ok (.iconst 0, 1) := by decide +kernel
theorem dX9_readOne_17 : decode cX9_readOne 17 = .ok (.invokevirtual 50, 3) := by decide +kernel
theorem dX9_readOne_20 : decode cX9_readOne 20 = .ok (.istore_n 2, 1) := by decide +kernel
theorem dX9_readOne_21 : decode cX9_readOne 21 = .ok (.aload_n 0, 1) := by decide +kernel
theorem dX9_readOne_22 : decode cX9_readOne 22 = .ok (.bipush 43, 2) := by decide +kernel
theorem dX9_readOne_24 : decode cX9_readOne 24 = .ok (.invokevirtual 42, 3) := by decide +kernel
theorem dX9_readOne_27 : decode cX9_readOne 27 = .ok (.aload_n 0, 1) := by decide +kernel
theorem dX9_readOne_28 : decode cX9_readOne 28 = .ok (.iconst 1, 1) := by decide +kernel
theorem dX9_readOne_29 : decode cX9_readOne 29 = .ok (.sipush 27720, 3) := by decide +kernel
theorem dX9_readOne_32 : decode cX9_readOne 32 = .ok (.iconst 0, 1) := by decide +kernel
theorem dX9_readOne_33 : decode cX9_readOne 33 = .ok (.invokevirtual 50, 3) := by decide +kernel
theorem dX9_readOne_36 : decode cX9_readOne 36 = .ok (.istore_n 3, 1) := by decide +kernel
theorem dX9_readOne_37 : decode cX9_readOne 37 = .ok (.iconst 0, 1) := by decide +kernel
theorem dX9_readOne_38 : decode cX9_readOne 38 = .ok (.istore 4, 2) := by decide +kernel
theorem dX9_readOne_40 : decode cX9_readOne 40 = .ok (.iload_n 1, 1) := by decide +kernel
theorem dX9_readOne_41 : decode cX9_readOne 41 = .ok (.invokestatic 54, 3) := by decide +kernel
theorem dX9_readOne_44 : decode cX9_readOne 44 = .ok (.ifCond .eq 27, 3) := by decide +kernel
theorem dX9_readOne_47 : decode cX9_readOne 47 = .ok (.aload_n 0, 1) := by decide +kernel
theorem dX9_readOne_48 : decode cX9_readOne 48 = .ok (.bipush 44, 2) := by decide +kernel
theorem dX9_readOne_50 : decode cX9_readOne 50 = .ok (.invokevirtual 42, 3) := by decide +kernel
theorem dX9_readOne_53 : decode cX9_readOne 53 = .ok (.aload_n 0, 1) := by decide +kernel
theorem dX9_readOne_54 : decode cX9_readOne 54 = .ok (.iload_n 1, 1) := by decide +kernel
theorem dX9_readOne_55 : decode cX9_readOne 55 = .ok (.invokestatic 58, 3) := by decide +kernel
theorem dX9_readOne_58 : decode cX9_readOne 58 = .ok (.iload_n 1, 1) := by decide +kernel
theorem dX9_readOne_59 : decode cX9_readOne 59 = .ok (.invokestatic 62, 3) := by decide +kernel
theorem dX9_readOne_62 : decode cX9_readOne 62 = .ok (.iload_n 1, 1) := by decide +kernel
theorem dX9_readOne_63 : decode cX9_readOne 63 = .ok (.invokestatic 65, 3) := by decide +kernel
theorem dX9_readOne_66 : decode cX9_readOne 66 = .ok (.invokevirtual 50, 3) := by decide +kernel
theorem dX9_readOne_69 : decode cX9_readOne 69 = .ok (.istore 4, 2) := by decide +kernel
theorem dX9_readOne_71 : decode cX9_readOne 71 = .ok (.aload_n 0, 1) := by decide +kernel
theorem dX9_readOne_72 : decode cX9_readOne 72 = .ok (.getfield 32, 3) := by decide +kernel
theorem dX9_readOne_75 : decode cX9_readOne 75 = .ok (.ifCond .ne 22, 3) := by decide +kernel
theorem dX9_readOne_78 : decode cX9_readOne 78 = .ok (.aload_n 0, 1) := by decide +kernel
theorem dX9_readOne_79 : decode cX9_readOne 79 = .ok (.getfield 36, 3) := by decide +kernel
theorem dX9_readOne_82 : decode cX9_readOne 82 = .ok (.ifCond .ge 15, 3) := by decide +kernel
theorem dX9_readOne_85 : decode cX9_readOne 85 = .ok (.aload_n 0, 1) := by decide +kernel
theorem dX9_readOne_86 : decode cX9_readOne 86 = .ok (.getfield 18, 3) := by decide +kernel
theorem dX9_readOne_89 : decode cX9_readOne 89 = .ok (.iload_n 1, 1) := by decide +kernel
theorem dX9_readOne_90 : decode cX9_readOne 90 = .ok (.iload_n 2, 1) := by decide +kernel
theorem dX9_readOne_91 : decode cX9_readOne 91 = .ok (.iload_n 3, 1) := by decide +kernel
theorem dX9_readOne_92 : decode cX9_readOne 92 = .ok (.iload 4, 2) := by decide +kernel
theorem dX9_readOne_94 : decode cX9_readOne 94 = .ok (.invokevirtual 68, 3) := by decide +kernel
theorem dX9_readOne_97 : decode cX9_readOne 97 = .ok (.return_, 1) := by decide +kernel
set_option maxRecDepth 20000 in
theorem ggX9_take_X9_signAt : GoodIn wsX9_take wsX9_signAt := goodIn_r _ [7, 8, 9, 10, 11, 12, 13, 14, 15] (by decide +kernel) (by decide +kernel)
set_option maxRecDepth 20000 in
theorem gX9_take_X9_signAt : GoodIn wsX9_take (wsV RX9 72 RX9 yX9_signAt wsX9_signAt) := goodIn_app (goodIn_of _ (by decide +kernel)) ggX9_take_X9_signAt
theorem dX9_take_0 : decode cX9_take 0 = .ok (.aload_n 0, 1) := by decide +kernel
theorem dX9_take_1 : decode cX9_take 1 = .ok (.getfield 32, 3) := by decide +kernel
theorem dX9_take_4 : decode cX9_take 4 = .ok (.ifCond .eq 4, 3) := by decide +kernel
theorem dX9_take_7 : decode cX9_take 7 = .ok (.return_, 1) := by decide +kernel
theorem dX9_take_8 : decode cX9_take 8 = .ok (.aload_n 0, 1) := by decide +kernel
theorem dX9_take_9 : decode cX9_take 9 = .ok (.aload_n 0, 1) := by decide +kernel
theorem dX9_take_10 : decode cX9_take 10 = .ok (.getfield 29, 3) := by decide +kernel
theorem dX9_take_13 : decode cX9_take 13 = .ok (.invokevirtual 72, 3) := by decide +kernel
theorem dX9_take_16 : decode cX9_take 16 = .ok (.iload_n 1, 1) := by decide +kernel
theorem dX9_take_17 : decode cX9_take 17 = .ok (.if_icmp .ne 16, 3) := by decide +kernel
theorem dX9_take_20 : decode cX9_take 20 = .ok (.aload_n 0, 1) := by decide +kernel
theorem dX9_take_21 : decode cX9_take 21 = .ok (.dup, 1) := by decide +kernel
theorem dX9_take_22 : decode cX9_take 22 = .ok (.getfield 29, 3) := by decide +kernel
theorem dX9_take_25 : decode cX9_take 25 = .ok (.iconst 1, 1) := by decide +kernel
theorem dX9_take_26 : decode cX9_take 26 = .ok (.iadd, 1) := by decide +kernel
theorem dX9_take_27 : decode cX9_take 27 = .ok (.putfield 29, 3) := by decide +kernel
theorem dX9_take_30 : decode cX9_take 30 = .ok (.goto 8, 3) := by decide +kernel
theorem dX9_take_33 : decode cX9_take 33 = .ok (.aload_n 0, 1) := by decide +kernel
theorem dX9_take_34 : decode cX9_take 34 = .ok (.iconst 1, 1) := by decide +kernel
theorem dX9_take_35 : decode cX9_take 35 = .ok (.putfield 32, 3) := by decide +kernel
theorem dX9_take_38 : decode cX9_take 38 = .ok (.return_, 1) := by decide +kernel
set_option maxRecDepth 20000 in
theorem ggX9_takeWord_X4_word : GoodIn wsX9_takeWord wsX4_word := goodIn_r _ [10] (by decide +kernel) (by decide +kernel)
set_option maxRecDepth 20000 in
theorem gX9_takeWord_X4_word : GoodIn wsX9_takeWord (va_wsS RX9 76 yX4_word wsX4_word) := goodIn_app (goodIn_of _ (by decide +kernel)) ggX9_takeWord_X4_word
set_option maxRecDepth 20000 in
theorem ggX9_takeWord_X9_sameSigns : GoodIn wsX9_takeWord wsX9_sameSigns := goodIn_r _ [15, 2, 16, 17, 18, 19, 20, 21, 22, 23, 24, 25, 26, 27, 28, 29, 30, 14, 31, 32, 33, 34, 35, 36, 37, 38, 39, 40, 41, 42, 43, 44, 45, 46, 47, 48, 49, 50, 51, 52, 53, 54, 55, 56, 57, 58, 59, 60, 61, 62, 63, 64, 65, 66, 67, 68, 69, 70, 71, 72, 73, 74, 75, 76] (by decide +kernel) (by decide +kernel)
set_option maxRecDepth 20000 in
theorem gX9_takeWord_X9_sameSigns : GoodIn wsX9_takeWord (wsV RX9 80 RX9 yX9_sameSigns wsX9_sameSigns) := goodIn_app (goodIn_of _ (by decide +kernel)) ggX9_takeWord_X9_sameSigns
set_option maxRecDepth 20000 in
theorem ggX9_takeWord_J0_length_8abf5 : GoodIn wsX9_takeWord wsJ0_length_8abf5 := goodIn_r _ [20, 21, 22, 23, 24, 19, 25, 26, 27] (by decide +kernel) (by decide +kernel)
set_option maxRecDepth 20000 in
theorem gX9_takeWord_J0_length_8abf5 : GoodIn wsX9_takeWord (wsV RX9 84 RJ0 yJ0_length_8abf5 wsJ0_length_8abf5) := goodIn_app (goodIn_of _ (by decide +kernel)) ggX9_takeWord_J0_length_8abf5
theorem dX9_takeWord_0 : decode cX9_takeWord 0 = .ok (.aload_n 0, 1) := by decide +kernel
theorem dX9_takeWord_1 : decode cX9_takeWord 1 = .ok (.getfield 32, 3) := by decide +kernel
theorem dX9_takeWord_4 : decode cX9_takeWord 4 = .ok (.ifCond .eq 5, 3) := by decide +kernel
theorem dX9_takeWord_7 : decode cX9_takeWord 7 = .ok (.iconst 4, 1) := by decide +kernel
theorem dX9_takeWord_8 : decode cX9_takeWord 8 = .ok (.ireturn, 1) := by decide +kernel
theorem dX9_takeWord_9 : decode cX9_takeWord 9 = .ok (.iconst 0, 1) := by decide +kernel
theorem dX9_takeWord_10 : decode cX9_takeWord 10 = .ok (.istore_n 1, 1) := by decide +kernel
theorem dX9_takeWord_11 : decode cX9_takeWord 11 = .ok (.iconst 0, 1) := by decide +kernel
theorem dX9_takeWord_12 : decode cX9_takeWord 12 = .ok (.istore_n 2, 1) := by decide +kernel
theorem dX9_takeWord_13 : decode cX9_takeWord 13 = .ok (.iload_n 2, 1) := by decide +kernel
theorem dX9_takeWord_14 : decode cX9_takeWord 14 = .ok (.iconst 4, 1) := by decide +kernel
theorem dX9_takeWord_15 : decode cX9_takeWord 15 = .ok (.if_icmp .gt 50, 3) := by decide +kernel
theorem dX9_takeWord_18 : decode cX9_takeWord 18 = .ok (.iload_n 2, 1) := by decide +kernel
theorem dX9_takeWord_19 : decode cX9_takeWord 19 = .ok (.invokestatic 76, 3) := by decide +kernel
theorem dX9_takeWord_22 : decode cX9_takeWord 22 = .ok (.astore_n 3, 1) := by decide +kernel
theorem dX9_takeWord_23 : decode cX9_takeWord 23 = .ok (.aload_n 0, 1) := by decide +kernel
theorem dX9_takeWord_24 : decode cX9_takeWord 24 = .ok (.aload_n 3, 1) := by decide +kernel
theorem dX9_takeWord_25 : decode cX9_takeWord 25 = .ok (.invokevirtual 80, 3) := by decide +kernel
theorem dX9_takeWord_28 : decode cX9_takeWord 28 = .ok (.istore 4, 2) := by decide +kernel
theorem dX9_takeWord_30 : decode cX9_takeWord 30 = .ok (.iload 4, 2) := by decide +kernel
theorem dX9_takeWord_32 : decode cX9_takeWord 32 = .ok (.aload_n 3, 1) := by decide +kernel
theorem dX9_takeWord_33 : decode cX9_takeWord 33 = .ok (.invokevirtual 84, 3) := by decide +kernel
theorem dX9_takeWord_36 : decode cX9_takeWord 36 = .ok (.if_icmp .ne 16, 3) := by decide +kernel
theorem dX9_takeWord_39 : decode cX9_takeWord 39 = .ok (.aload_n 0, 1) := by decide +kernel
theorem dX9_takeWord_40 : decode cX9_takeWord 40 = .ok (.dup, 1) := by decide +kernel
theorem dX9_takeWord_41 : decode cX9_takeWord 41 = .ok (.getfield 29, 3) := by decide +kernel
theorem dX9_takeWord_44 : decode cX9_takeWord 44 = .ok (.iload 4, 2) := by decide +kernel
theorem dX9_takeWord_46 : decode cX9_takeWord 46 = .ok (.iadd, 1) := by decide +kernel
theorem dX9_takeWord_47 : decode cX9_takeWord 47 = .ok (.putfield 29, 3) := by decide +kernel
theorem dX9_takeWord_50 : decode cX9_takeWord 50 = .ok (.iload_n 2, 1) := by decide +kernel
theorem dX9_takeWord_51 : decode cX9_takeWord 51 = .ok (.ireturn, 1) := by decide +kernel
theorem dX9_takeWord_52 : decode cX9_takeWord 52 = .ok (.iload_n 1, 1) := by decide +kernel
theorem dX9_takeWord_53 : decode cX9_takeWord 53 = .ok (.iload 4, 2) := by decide +kernel
theorem dX9_takeWord_55 : decode cX9_takeWord 55 = .ok (.invokestatic 88, 3) := by decide +kernel
theorem dX9_takeWord_58 : decode cX9_takeWord 58 = .ok (.istore_n 1, 1) := by decide +kernel
theorem dX9_takeWord_59 : decode cX9_takeWord 59 = .ok (.iinc 2 1, 3) := by decide +kernel
theorem dX9_takeWord_62 : decode cX9_takeWord 62 = .ok (.goto (-49), 3) := by decide +kernel
theorem dX9_takeWord_65 : decode cX9_takeWord 65 = .ok (.aload_n 0, 1) := by decide +kernel
theorem dX9_takeWord_66 : decode cX9_takeWord 66 = .ok (.dup, 1) := by decide +kernel
theorem dX9_takeWord_67 : decode cX9_takeWord 67 = .ok (.getfield 29, 3) := by decide +kernel
theorem dX9_takeWord_70 : decode cX9_takeWord 70 = .ok (.iload_n 1, 1) := by decide +kernel
theorem dX9_takeWord_71 : decode cX9_takeWord 71 = .ok (.iadd, 1) := by decide +kernel
theorem dX9_takeWord_72 : decode cX9_takeWord 72 = .ok (.putfield 29, 3) := by decide +kernel
theorem dX9_takeWord_75 : decode cX9_takeWord 75 = .ok (.aload_n 0, 1) := by decide +kernel
theorem dX9_takeWord_76 : decode cX9_takeWord 76 = .ok (.iconst 1, 1) := by decide +kernel
theorem dX9_takeWord_77 : decode cX9_takeWord 77 = .ok (.putfield 32, 3) := by decide +kernel
theorem dX9_takeWord_80 : decode cX9_takeWord 80 = .ok (.iconst 4, 1) := by decide +kernel
theorem dX9_takeWord_81 : decode cX9_takeWord 81 = .ok (.ireturn, 1) := by decide +kernel
set_option maxRecDepth 20000 in
theorem ggX9_sameSigns_J0_length_8abf5 : GoodIn wsX9_sameSigns wsJ0_length_8abf5 := goodIn_r _ [6, 7, 8, 9, 10, 5, 11, 12, 13] (by decide +kernel) (by decide +kernel)
set_option maxRecDepth 20000 in
theorem gX9_sameSigns_J0_length_8abf5 : GoodIn wsX9_sameSigns (wsV RX9 84 RJ0 yJ0_length_8abf5 wsJ0_length_8abf5) := goodIn_app (goodIn_of _ (by decide +kernel)) ggX9_sameSigns_J0_length_8abf5
set_option maxRecDepth 20000 in
theorem ggX9_sameSigns_X9_signAt : GoodIn wsX9_sameSigns wsX9_signAt := goodIn_r _ [18, 19, 20, 58, 59, 60, 61, 62, 63] (by decide +kernel) (by decide +kernel)
set_option maxRecDepth 20000 in
theorem gX9_sameSigns_X9_signAt : GoodIn wsX9_sameSigns (wsV RX9 72 RX9 yX9_signAt wsX9_signAt) := goodIn_app (goodIn_of _ (by decide +kernel)) ggX9_sameSigns_X9_signAt
set_option maxRecDepth 20000 in
theorem ggX9_sameSigns_J0_charAt_5068e : GoodIn wsX9_sameSigns wsJ0_charAt_5068e := goodIn_r _ [24, 7, 25, 26, 27, 5, 28, 12, 13, 29, 30, 31, 32, 33, 34, 35, 36, 37, 38, 39, 40, 41, 42, 43, 44, 45, 46, 47, 48, 49, 50, 51, 52, 53, 54, 55, 56, 57] (by decide +kernel) (by decide +kernel)
set_option maxRecDepth 20000 in
theorem gX9_sameSigns_J0_charAt_5068e : GoodIn wsX9_sameSigns (wsV RX9 94 RJ0 yJ0_charAt_5068e wsJ0_charAt_5068e) := goodIn_app (goodIn_of _ (by decide +kernel)) ggX9_sameSigns_J0_charAt_5068e
theorem dX9_sameSigns_0 : decode cX9_sameSigns 0 = .ok (.iconst 0, 1) := by decide +kernel
theorem dX9_sameSigns_1 : decode cX9_sameSigns 1 = .ok (.istore_n 2, 1) := by decide +kernel
theorem dX9_sameSigns_2 : decode cX9_sameSigns 2 = .ok (.iload_n 2, 1) := by decide +kernel
theorem dX9_sameSigns_3 : decode cX9_sameSigns 3 = .ok (.aload_n 1, 1) := by decide +kernel
theorem dX9_sameSigns_4 : decode cX9_sameSigns 4 = .ok (.invokevirtual 84, 3) := by decide +kernel
theorem dX9_sameSigns_7 : decode cX9_sameSigns 7 = .ok (.if_icmp .ge 27, 3) := by decide +kernel
theorem dX9_sameSigns_10 : decode cX9_sameSigns 10 = .ok (.aload_n 0, 1) := by decide +kernel
theorem dX9_sameSigns_11 : decode cX9_sameSigns 11 = .ok (.aload_n 0, 1) := by decide +kernel
theorem dX9_sameSigns_12 : decode cX9_sameSigns 12 = .ok (.getfield 29, 3) := by decide +kernel
theorem dX9_sameSigns_15 : decode cX9_sameSigns 15 = .ok (.iload_n 2, 1) := by decide +kernel
theorem dX9_sameSigns_16 : decode cX9_sameSigns 16 = .ok (.iadd, 1) := by decide +kernel
theorem dX9_sameSigns_17 : decode cX9_sameSigns 17 = .ok (.invokevirtual 72, 3) := by decide +kernel
theorem dX9_sameSigns_20 : decode cX9_sameSigns 20 = .ok (.aload_n 1, 1) := by decide +kernel
theorem dX9_sameSigns_21 : decode cX9_sameSigns 21 = .ok (.iload_n 2, 1) := by decide +kernel
theorem dX9_sameSigns_22 : decode cX9_sameSigns 22 = .ok (.invokevirtual 94, 3) := by decide +kernel
theorem dX9_sameSigns_25 : decode cX9_sameSigns 25 = .ok (.if_icmp .ne 9, 3) := by decide +kernel
theorem dX9_sameSigns_28 : decode cX9_sameSigns 28 = .ok (.iinc 2 1, 3) := by decide +kernel
theorem dX9_sameSigns_31 : decode cX9_sameSigns 31 = .ok (.goto (-29), 3) := by decide +kernel
theorem dX9_sameSigns_34 : decode cX9_sameSigns 34 = .ok (.iload_n 2, 1) := by decide +kernel
theorem dX9_sameSigns_35 : decode cX9_sameSigns 35 = .ok (.ireturn, 1) := by decide +kernel
set_option maxRecDepth 20000 in
theorem ggX9_takeNumber_X9_signAt : GoodIn wsX9_takeNumber wsX9_signAt := goodIn_r _ [8, 9, 10, 14, 15, 16, 17, 18, 19] (by decide +kernel) (by decide +kernel)
set_option maxRecDepth 20000 in
theorem gX9_takeNumber_X9_signAt : GoodIn wsX9_takeNumber (wsV RX9 72 RX9 yX9_signAt wsX9_signAt) := goodIn_app (goodIn_of _ (by decide +kernel)) ggX9_takeNumber_X9_signAt
set_option maxRecDepth 20000 in
theorem ggX9_takeNumber_X9_isDigit : GoodIn wsX9_takeNumber wsX9_isDigit := goodIn_r _ [13] (by decide +kernel) (by decide +kernel)
set_option maxRecDepth 20000 in
theorem gX9_takeNumber_X9_isDigit : GoodIn wsX9_takeNumber (va_wsS RX9 97 yX9_isDigit wsX9_isDigit) := goodIn_app (goodIn_of _ (by decide +kernel)) ggX9_takeNumber_X9_isDigit
theorem dX9_takeNumber_0 : decode cX9_takeNumber 0 = .ok (.aload_n 0, 1) := by decide +kernel
theorem dX9_takeNumber_1 : decode cX9_takeNumber 1 = .ok (.getfield 32, 3) := by decide +kernel
theorem dX9_takeNumber_4 : decode cX9_takeNumber 4 = .ok (.ifCond .eq 5, 3) := by decide +kernel
theorem dX9_takeNumber_7 : decode cX9_takeNumber 7 = .ok (.iconst 0, 1) := by decide +kernel
theorem dX9_takeNumber_8 : decode cX9_takeNumber 8 = .ok (.ireturn, 1) := by decide +kernel
theorem dX9_takeNumber_9 : decode cX9_takeNumber 9 = .ok (.iload_n 3, 1) := by decide +kernel
theorem dX9_takeNumber_10 : decode cX9_takeNumber 10 = .ok (.ifCond .eq 20, 3) := by decide +kernel
theorem dX9_takeNumber_13 : decode cX9_takeNumber 13 = .ok (.aload_n 0, 1) := by decide +kernel
theorem dX9_takeNumber_14 : decode cX9_takeNumber 14 = .ok (.aload_n 0, 1) := by decide +kernel
theorem dX9_takeNumber_15 : decode cX9_takeNumber 15 = .ok (.getfield 29, 3) := by decide +kernel
theorem dX9_takeNumber_18 : decode cX9_takeNumber 18 = .ok (.invokevirtual 72, 3) := by decide +kernel
theorem dX9_takeNumber_21 : decode cX9_takeNumber 21 = .ok (.bipush 45, 2) := by decide +kernel
theorem dX9_takeNumber_23 : decode cX9_takeNumber 23 = .ok (.if_icmp .ne 7, 3) := by decide +kernel
theorem dX9_takeNumber_26 : decode cX9_takeNumber 26 = .ok (.iconst 1, 1) := by decide +kernel
theorem dX9_takeNumber_27 : decode cX9_takeNumber 27 = .ok (.goto 4, 3) := by decide +kernel
theorem dX9_takeNumber_30 : decode cX9_takeNumber 30 = .ok (.iconst 0, 1) := by decide +kernel
theorem dX9_takeNumber_31 : decode cX9_takeNumber 31 = .ok (.istore 4, 2) := by decide +kernel
theorem dX9_takeNumber_33 : decode cX9_takeNumber 33 = .ok (.iload 4, 2) := by decide +kernel
theorem dX9_takeNumber_35 : decode cX9_takeNumber 35 = .ok (.ifCond .eq 13, 3) := by decide +kernel
theorem dX9_takeNumber_38 : decode cX9_takeNumber 38 = .ok (.aload_n 0, 1) := by decide +kernel
theorem dX9_takeNumber_39 : decode cX9_takeNumber 39 = .ok (.dup, 1) := by decide +kernel
theorem dX9_takeNumber_40 : decode cX9_takeNumber 40 = .ok (.getfield 29, 3) := by decide +kernel
theorem dX9_takeNumber_43 : decode cX9_takeNumber 43 = .ok (.iconst 1, 1) := by decide +kernel
theorem dX9_takeNumber_44 : decode cX9_takeNumber 44 = .ok (.iadd, 1) := by decide +kernel
theorem dX9_takeNumber_45 : decode cX9_takeNumber 45 = .ok (.putfield 29, 3) := by decide +kernel
theorem dX9_takeNumber_48 : decode cX9_takeNumber 48 = .ok (.aload_n 0, 1) := by decide +kernel
theorem dX9_takeNumber_49 : decode cX9_takeNumber 49 = .ok (.getfield 29, 3) := by decide +kernel
theorem dX9_takeNumber_52 : decode cX9_takeNumber 52 = .ok (.istore 5, 2) := by decide +kernel
theorem dX9_takeNumber_54 : decode cX9_takeNumber 54 = .ok (.iconst 0, 1) := by decide +kernel
theorem dX9_takeNumber_55 : decode cX9_takeNumber 55 = .ok (.istore 6, 2) := by decide +kernel
theorem dX9_takeNumber_57 : decode cX9_takeNumber 57 = .ok (.aload_n 0, 1) := by decide +kernel
theorem dX9_takeNumber_58 : decode cX9_takeNumber 58 = .ok (.getfield 29, 3) := by decide +kernel
theorem dX9_takeNumber_61 : decode cX9_takeNumber 61 = .ok (.iload 5, 2) := by decide +kernel
theorem dX9_takeNumber_63 : decode cX9_takeNumber 63 = .ok (.iconst 5, 1) := by decide +kernel
theorem dX9_takeNumber_64 : decode cX9_takeNumber 64 = .ok (.iadd, 1) := by decide +kernel
theorem dX9_takeNumber_65 : decode cX9_takeNumber 65 = .ok (.if_icmp .ge 49, 3) := by decide +kernel
theorem dX9_takeNumber_68 : decode cX9_takeNumber 68 = .ok (.aload_n 0, 1) := by decide +kernel
theorem dX9_takeNumber_69 : decode cX9_takeNumber 69 = .ok (.aload_n 0, 1) := by decide +kernel
theorem dX9_takeNumber_70 : decode cX9_takeNumber 70 = .ok (.getfield 29, 3) := by decide +kernel
theorem dX9_takeNumber_73 : decode cX9_takeNumber 73 = .ok (.invokevirtual 72, 3) := by decide +kernel
theorem dX9_takeNumber_76 : decode cX9_takeNumber 76 = .ok (.invokestatic 97, 3) := by decide +kernel
theorem dX9_takeNumber_79 : decode cX9_takeNumber 79 = .ok (.ifCond .eq 35, 3) := by decide +kernel
theorem dX9_takeNumber_82 : decode cX9_takeNumber 82 = .ok (.bipush 10, 2) := by decide +kernel
theorem dX9_takeNumber_84 : decode cX9_takeNumber 84 = .ok (.iload 6, 2) := by decide +kernel
theorem dX9_takeNumber_86 : decode cX9_takeNumber 86 = .ok (.imul, 1) := by decide +kernel
theorem dX9_takeNumber_87 : decode cX9_takeNumber 87 = .ok (.aload_n 0, 1) := by decide +kernel
theorem dX9_takeNumber_88 : decode cX9_takeNumber 88 = .ok (.aload_n 0, 1) := by decide +kernel
theorem dX9_takeNumber_89 : decode cX9_takeNumber 89 = .ok (.getfield 29, 3) := by decide +kernel
theorem dX9_takeNumber_92 : decode cX9_takeNumber 92 = .ok (.invokevirtual 72, 3) := by decide +kernel
theorem dX9_takeNumber_95 : decode cX9_takeNumber 95 = .ok (.bipush 48, 2) := by decide +kernel
theorem dX9_takeNumber_97 : decode cX9_takeNumber 97 = .ok (.isub, 1) := by decide +kernel
theorem dX9_takeNumber_98 : decode cX9_takeNumber 98 = .ok (.iadd, 1) := by decide +kernel
theorem dX9_takeNumber_99 : decode cX9_takeNumber 99 = .ok (.istore 6, 2) := by decide +kernel
theorem dX9_takeNumber_101 : decode cX9_takeNumber 101 = .ok (.aload_n 0, 1) := by decide +kernel
theorem dX9_takeNumber_102 : decode cX9_takeNumber 102 = .ok (.dup, 1) := by decide +kernel
theorem dX9_takeNumber_103 : decode cX9_takeNumber 103 = .ok (.getfield 29, 3) := by decide +kernel
theorem dX9_takeNumber_106 : decode cX9_takeNumber 106 = .ok (.iconst 1, 1) := by decide +kernel
theorem dX9_takeNumber_107 : decode cX9_takeNumber 107 = .ok (.iadd, 1) := by decide +kernel
theorem dX9_takeNumber_108 : decode cX9_takeNumber 108 = .ok (.putfield 29, 3) := by decide +kernel
theorem dX9_takeNumber_111 : decode cX9_takeNumber 111 = .ok (.goto (-54), 3) := by decide +kernel
theorem dX9_takeNumber_114 : decode cX9_takeNumber 114 = .ok (.aload_n 0, 1) := by decide +kernel
theorem dX9_takeNumber_115 : decode cX9_takeNumber 115 = .ok (.aload_n 0, 1) := by decide +kernel
theorem dX9_takeNumber_116 : decode cX9_takeNumber 116 = .ok (.getfield 29, 3) := by decide +kernel
theorem dX9_takeNumber_119 : decode cX9_takeNumber 119 = .ok (.iload 5, 2) := by decide +kernel
theorem dX9_takeNumber_121 : decode cX9_takeNumber 121 = .ok (.if_icmp .ne 7, 3) := by decide +kernel
theorem dX9_takeNumber_124 : decode cX9_takeNumber 124 = .ok (.iconst 1, 1) := by decide +kernel
theorem dX9_takeNumber_125 : decode cX9_takeNumber 125 = .ok (.goto 4, 3) := by decide +kernel
theorem dX9_takeNumber_128 : decode cX9_takeNumber 128 = .ok (.iconst 0, 1) := by decide +kernel
theorem dX9_takeNumber_129 : decode cX9_takeNumber 129 = .ok (.putfield 32, 3) := by decide +kernel
theorem dX9_takeNumber_132 : decode cX9_takeNumber 132 = .ok (.iload 4, 2) := by decide +kernel
theorem dX9_takeNumber_134 : decode cX9_takeNumber 134 = .ok (.ifCond .eq 8, 3) := by decide +kernel
theorem dX9_takeNumber_137 : decode cX9_takeNumber 137 = .ok (.iload 6, 2) := by decide +kernel
theorem dX9_takeNumber_139 : decode cX9_takeNumber 139 = .ok (.ineg, 1) := by decide +kernel
theorem dX9_takeNumber_140 : decode cX9_takeNumber 140 = .ok (.istore 6, 2) := by decide +kernel
theorem dX9_takeNumber_142 : decode cX9_takeNumber 142 = .ok (.aload_n 0, 1) := by decide +kernel
theorem dX9_takeNumber_143 : decode cX9_takeNumber 143 = .ok (.getfield 36, 3) := by decide +kernel
theorem dX9_takeNumber_146 : decode cX9_takeNumber 146 = .ok (.ifCond .ge 21, 3) := by decide +kernel
theorem dX9_takeNumber_149 : decode cX9_takeNumber 149 = .ok (.iload 6, 2) := by decide +kernel
theorem dX9_takeNumber_151 : decode cX9_takeNumber 151 = .ok (.iload_n 1, 1) := by decide +kernel
theorem dX9_takeNumber_152 : decode cX9_takeNumber 152 = .ok (.if_icmp .lt 9, 3) := by decide +kernel
theorem dX9_takeNumber_155 : decode cX9_takeNumber 155 = .ok (.iload 6, 2) := by decide +kernel
theorem dX9_takeNumber_157 : decode cX9_takeNumber 157 = .ok (.iload_n 2, 1) := by decide +kernel
theorem dX9_takeNumber_158 : decode cX9_takeNumber 158 = .ok (.if_icmp .le 9, 3) := by decide +kernel
theorem dX9_takeNumber_161 : decode cX9_takeNumber 161 = .ok (.aload_n 0, 1) := by decide +kernel
theorem dX9_takeNumber_162 : decode cX9_takeNumber 162 = .ok (.iload 5, 2) := by decide +kernel
theorem dX9_takeNumber_164 : decode cX9_takeNumber 164 = .ok (.putfield 36, 3) := by decide +kernel
theorem dX9_takeNumber_167 : decode cX9_takeNumber 167 = .ok (.iload 6, 2) := by decide +kernel
theorem dX9_takeNumber_169 : decode cX9_takeNumber 169 = .ok (.ireturn, 1) := by decide +kernel
theorem dX9_isDigit_0 : decode cX9_isDigit 0 = .ok (.iload_n 0, 1) := by decide +kernel
theorem dX9_isDigit_1 : decode cX9_isDigit 1 = .ok (.bipush 48, 2) := by decide +kernel
theorem dX9_isDigit_3 : decode cX9_isDigit 3 = .ok (.if_icmp .lt 13, 3) := by decide +kernel
theorem dX9_isDigit_6 : decode cX9_isDigit 6 = .ok (.iload_n 0, 1) := by decide +kernel
theorem dX9_isDigit_7 : decode cX9_isDigit 7 = .ok (.bipush 57, 2) := by decide +kernel
theorem dX9_isDigit_9 : decode cX9_isDigit 9 = .ok (.if_icmp .gt 7, 3) := by decide +kernel
theorem dX9_isDigit_12 : decode cX9_isDigit 12 = .ok (.iconst 1, 1) := by decide +kernel
theorem dX9_isDigit_13 : decode cX9_isDigit 13 = .ok (.goto 4, 3) := by decide +kernel
theorem dX9_isDigit_16 : decode cX9_isDigit 16 = .ok (.iconst 0, 1) := by decide +kernel
theorem dX9_isDigit_17 : decode cX9_isDigit 17 = .ok (.ireturn, 1) := by decide +kernel
set_option maxRecDepth 20000 in
theorem ggX10_init_X4_init : GoodIn wsX10_init wsX4_init := goodIn_r _ [11, 12, 2, 3, 13, 14, 15, 16] (by decide +kernel) (by decide +kernel)
set_option maxRecDepth 20000 in
theorem gX10_init_X4_init_n9 : GoodIn wsX10_init (wsX4_init) := ggX10_init_X4_init
theorem dX10_init_0 : decode cX10_init 0 = .ok (.aload_n 0, 1) := by decide +kernel
theorem dX10_init_1 : decode cX10_init 1 = .ok (.invokespecial 1, 3) := by decide +kernel
theorem dX10_init_4 : decode cX10_init 4 = .ok (.aload_n 0, 1) := by decide +kernel
theorem dX10_init_5 : decode cX10_init 5 = .ok (.new 7, 3) := by decide +kernel
theorem dX10_init_8 : decode cX10_init 8 = .ok (.dup, 1) := by decide +kernel
theorem dX10_init_9 : decode cX10_init 9 = .ok (.invokespecial 9, 3) := by decide +kernel
theorem dX10_init_12 : decode cX10_init 12 = .ok (.putfield 10, 3) := by decide +kernel
theorem dX10_init_15 : decode cX10_init 15 = .ok (.aload_n 0, 1) := by decide +kernel
theorem dX10_init_16 : decode cX10_init 16 = .ok (.bipush 10, 2) := by decide +kernel
theorem dX10_init_18 : decode cX10_init 18 = .ok (.putfield 16, 3) := by decide +kernel
theorem dX10_init_21 : decode cX10_init 21 = .ok (.aload_n 0, 1) := by decide +kernel
theorem dX10_init_22 : decode cX10_init 22 = .ok (.sipush 1000, 3) := by decide +kernel
theorem dX10_init_25 : decode cX10_init 25 = .ok (.putfield 20, 3) := by decide +kernel
theorem dX10_init_28 : decode cX10_init 28 = .ok (.return_, 1) := by decide +kernel
set_option maxRecDepth 20000 in
theorem ggX10_copyFrom_X4_copyFrom : GoodIn wsX10_copyFrom wsX4_copyFrom := goodIn_r _ [8, 9, 10, 11, 12, 13, 14, 18, 19] (by decide +kernel) (by decide +kernel)
set_option maxRecDepth 20000 in
theorem gX10_copyFrom_X4_copyFrom : GoodIn wsX10_copyFrom (wsV RX10 23 RX4 yX4_copyFrom wsX4_copyFrom) := goodIn_app (goodIn_of _ (by decide +kernel)) ggX10_copyFrom_X4_copyFrom
theorem dX10_copyFrom_0 : decode cX10_copyFrom 0 = .ok (.aload_n 0, 1) := by decide +kernel
theorem dX10_copyFrom_1 : decode cX10_copyFrom 1 = .ok (.getfield 10, 3) := by decide +kernel
theorem dX10_copyFrom_4 : decode cX10_copyFrom 4 = .ok (.aload_n 1, 1) := by decide +kernel
theorem dX10_copyFrom_5 : decode cX10_copyFrom 5 = .ok (.getfield 10, 3) := by decide +kernel
theorem dX10_copyFrom_8 : decode cX10_copyFrom 8 = .ok (.invokevirtual 23, 3) := by decide +kernel
theorem dX10_copyFrom_11 : decode cX10_copyFrom 11 = .ok (.aload_n 0, 1) := by decide +kernel
theorem dX10_copyFrom_12 : decode cX10_copyFrom 12 = .ok (.aload_n 1, 1) := by decide +kernel
theorem dX10_copyFrom_13 : decode cX10_copyFrom 13 = .ok (.getfield 16, 3) := by decide +kernel
theorem dX10_copyFrom_16 : decode cX10_copyFrom 16 = .ok (.putfield 16, 3) := by decide +kernel
theorem dX10_copyFrom_19 : decode cX10_copyFrom 19 = .ok (.aload_n 0, 1) := by decide +kernel
theorem dX10_copyFrom_20 : decode cX10_copyFrom 20 = .ok (.aload_n 1, 1) := by decide +kernel
theorem dX10_copyFrom_21 : decode cX10_copyFrom 21 = .ok (.getfield 20, 3) := by decide +kernel
theorem dX10_copyFrom_24 : decode cX10_copyFrom 24 = .ok (.putfield 20, 3) := by decide +kernel
theorem dX10_copyFrom_27 : decode cX10_copyFrom 27 = .ok (.return_, 1) := by decide +kernel
set_option maxRecDepth 20000 in
theorem ggX11_init_X10_init : GoodIn wsX11_init wsX10_init := goodIn_r _ [21, 22, 2, 3, 23, 24, 25, 26, 27, 28, 29, 30, 31, 32, 33, 121, 122, 100, 101, 102] (by decide +kernel) (by decide +kernel)
set_option maxRecDepth 20000 in
theorem gX11_init_X10_init_n9 : GoodIn wsX11_init (wsX10_init) := ggX11_init_X10_init
set_option maxRecDepth 20000 in
theorem ggX11_init_X2_init : GoodIn wsX11_init wsX2_init := goodIn_r _ [36, 37, 2, 3, 38, 39, 5, 6, 20, 21, 22, 23, 24, 25, 26, 27, 28, 29, 30, 31, 32, 33, 107, 108, 100, 101, 102, 121, 122] (by decide +kernel) (by decide +kernel)
set_option maxRecDepth 20000 in
theorem gX11_init_X2_init : GoodIn wsX11_init (wsX2_init) := ggX11_init_X2_init
set_option maxRecDepth 20000 in
theorem ggX11_init_X9_init : GoodIn wsX11_init wsX9_init := goodIn_r _ [41, 42, 2, 3, 43, 44, 45, 24, 25, 46, 29, 30, 31, 32, 33, 109, 110, 111, 112, 113, 114, 121, 122] (by decide +kernel) (by decide +kernel)
set_option maxRecDepth 20000 in
theorem gX11_init_X9_init_n25 : GoodIn wsX11_init (wsX9_init) := ggX11_init_X9_init
set_option maxRecDepth 20000 in
theorem ggX11_init_X8_init : GoodIn wsX11_init wsX8_init := goodIn_r _ [49, 50, 2, 3, 51, 52, 53, 54, 55, 56, 57, 58, 59, 60, 61, 62, 63, 64, 65, 66, 67, 68, 69, 70, 71, 72, 73, 74, 75, 32, 76, 77, 78, 79, 80, 81, 82, 83, 84, 85, 86, 87, 88, 89, 90, 91, 92, 93, 94, 95, 96, 97, 98, 99, 115, 116, 117, 118, 119, 120, 123, 124, 125, 126, 127, 128, 129, 130, 131, 132, 133, 134, 135, 136, 137, 138] (by decide +kernel) (by decide +kernel)
set_option maxRecDepth 20000 in
theorem gX11_init_X8_init : GoodIn wsX11_init (wsX8_init) := ggX11_init_X8_init
theorem dX11_init_0 : decode cX11_init 0 = .ok (.aload_n 0, 1) := by decide +kernel
theorem dX11_init_1 : decode cX11_init 1 = .ok (.invokespecial 1, 3) := by decide +kernel
theorem dX11_init_4 : decode cX11_init 4 = .ok (.aload_n 0, 1) := by decide +kernel
theorem dX11_init_5 : decode cX11_init 5 = .ok (.new 7, 3) := by decide +kernel
theorem dX11_init_8 : decode cX11_init 8 = .ok (.dup, 1) := by decide +kernel
theorem dX11_init_9 : decode cX11_init 9 = .ok (.invokespecial 9, 3) := by decide +kernel
theorem dX11_init_12 : decode cX11_init 12 = .ok (.putfield 10, 3) := by decide +kernel
theorem dX11_init_15 : decode cX11_init 15 = .ok (.aload_n 0, 1) := by decide +kernel
theorem dX11_init_16 : decode cX11_init 16 = .ok (.new 16, 3) := by decide +kernel
theorem dX11_init_19 : decode cX11_init 19 = .ok (.dup, 1) := by decide +kernel
theorem dX11_init_20 : decode cX11_init 20 = .ok (.invokespecial 18, 3) := by decide +kernel
theorem dX11_init_23 : decode cX11_init 23 = .ok (.putfield 19, 3) := by decide +kernel
theorem dX11_init_26 : decode cX11_init 26 = .ok (.aload_n 0, 1) := by decide +kernel
theorem dX11_init_27 : decode cX11_init 27 = .ok (.new 23, 3) := by decide +kernel
theorem dX11_init_30 : decode cX11_init 30 = .ok (.dup, 1) := by decide +kernel
theorem dX11_init_31 : decode cX11_init 31 = .ok (.invokespecial 25, 3) := by decide +kernel
theorem dX11_init_34 : decode cX11_init 34 = .ok (.putfield 26, 3) := by decide +kernel
theorem dX11_init_37 : decode cX11_init 37 = .ok (.aload_n 0, 1) := by decide +kernel
theorem dX11_init_38 : decode cX11_init 38 = .ok (.new 30, 3) := by decide +kernel
theorem dX11_init_41 : decode cX11_init 41 = .ok (.dup, 1) := by decide +kernel
theorem dX11_init_42 : decode cX11_init 42 = .ok (.invokespecial 32, 3) := by decide +kernel
theorem dX11_init_45 : decode cX11_init 45 = .ok (.putfield 33, 3) := by decide +kernel
theorem dX11_init_48 : decode cX11_init 48 = .ok (.return_, 1) := by decide +kernel
set_option maxRecDepth 20000 in
theorem ggX11_add_X4_isAllowed : GoodIn wsX11_add wsX4_isAllowed := goodIn_r _ [8, 9, 10, 11, 12, 13, 14, 7, 15, 16, 17, 18, 19, 20, 21] (by decide +kernel) (by decide +kernel)
set_option maxRecDepth 20000 in
theorem gX11_add_X4_isAllowed : GoodIn wsX11_add (va_wsS RX11 37 yX4_isAllowed wsX4_isAllowed) := goodIn_app (goodIn_of _ (by decide +kernel)) ggX11_add_X4_isAllowed
set_option maxRecDepth 20000 in
theorem ggX11_add_X2_keep : GoodIn wsX11_add wsX2_keep := goodIn_r _ [26, 27, 28, 29, 30, 31, 25, 32, 33, 34, 35, 36, 37, 38, 39, 40, 41, 42, 43, 7, 44, 45, 46, 47, 48, 49, 50, 64, 65, 59, 60, 61, 62, 63] (by decide +kernel) (by decide +kernel)
set_option maxRecDepth 20000 in
theorem gX11_add_X2_keep : GoodIn wsX11_add (wsV RX11 53 RX2 yX2_keep wsX2_keep) := goodIn_app (goodIn_of _ (by decide +kernel)) ggX11_add_X2_keep
set_option maxRecDepth 20000 in
theorem ggX11_add_X4_append : GoodIn wsX11_add wsX4_append := goodIn_r _ [54, 46, 45, 62, 63] (by decide +kernel) (by decide +kernel)
set_option maxRecDepth 20000 in
theorem gX11_add_X4_append : GoodIn wsX11_add (wsV RX11 57 RX4 yX4_append wsX4_append) := goodIn_app (goodIn_of _ (by decide +kernel)) ggX11_add_X4_append
theorem dX11_add_0 : decode cX11_add 0 = .ok (.iload_n 1, 1) := by decide +kernel
theorem dX11_add_1 : decode cX11_add 1 = .ok (.iload_n 2, 1) := by decide +kernel
theorem dX11_add_2 : decode cX11_add 2 = .ok (.iload_n 3, 1) := by decide +kernel
theorem dX11_add_3 : decode cX11_add 3 = .ok (.iload 4, 2) := by decide +kernel
theorem dX11_add_5 : decode cX11_add 5 = .ok (.invokestatic 37, 3) := by decide +kernel
theorem dX11_add_8 : decode cX11_add 8 = .ok (.ifCond .ne 6, 3) := by decide +kernel
theorem dX11_add_11 : decode cX11_add 11 = .ok (.ldc 43, 2) := by decide +kernel
theorem dX11_add_13 : decode cX11_add 13 = .ok (.ireturn, 1) := by decide +kernel
theorem dX11_add_14 : decode cX11_add 14 = .ok (.aload_n 0, 1) := by decide +kernel
theorem dX11_add_15 : decode cX11_add 15 = .ok (.getfield 10, 3) := by decide +kernel
theorem dX11_add_18 : decode cX11_add 18 = .ok (.getfield 44, 3) := by decide +kernel
theorem dX11_add_21 : decode cX11_add 21 = .ok (.getfield 48, 3) := by decide +kernel
theorem dX11_add_24 : decode cX11_add 24 = .ok (.bipush 12, 2) := by decide +kernel
theorem dX11_add_26 : decode cX11_add 26 = .ok (.if_icmp .lt 6, 3) := by decide +kernel
theorem dX11_add_29 : decode cX11_add 29 = .ok (.ldc 52, 2) := by decide +kernel
theorem dX11_add_31 : decode cX11_add 31 = .ok (.ireturn, 1) := by decide +kernel
theorem dX11_add_32 : decode cX11_add 32 = .ok (.aload_n 0, 1) := by decide +kernel
theorem dX11_add_33 : decode cX11_add 33 = .ok (.getfield 19, 3) := by decide +kernel
theorem dX11_add_36 : decode cX11_add 36 = .ok (.aload_n 0, 1) := by decide +kernel
theorem dX11_add_37 : decode cX11_add 37 = .ok (.getfield 10, 3) := by decide +kernel
theorem dX11_add_40 : decode cX11_add 40 = .ok (.invokevirtual 53, 3) := by decide +kernel
theorem dX11_add_43 : decode cX11_add 43 = .ok (.aload_n 0, 1) := by decide +kernel
theorem dX11_add_44 : decode cX11_add 44 = .ok (.getfield 10, 3) := by decide +kernel
theorem dX11_add_47 : decode cX11_add 47 = .ok (.getfield 44, 3) := by decide +kernel
theorem dX11_add_50 : decode cX11_add 50 = .ok (.iload_n 1, 1) := by decide +kernel
theorem dX11_add_51 : decode cX11_add 51 = .ok (.iload_n 2, 1) := by decide +kernel
theorem dX11_add_52 : decode cX11_add 52 = .ok (.iload_n 3, 1) := by decide +kernel
theorem dX11_add_53 : decode cX11_add 53 = .ok (.iload 4, 2) := by decide +kernel
theorem dX11_add_55 : decode cX11_add 55 = .ok (.invokevirtual 57, 3) := by decide +kernel
theorem dX11_add_58 : decode cX11_add 58 = .ok (.aload_n 0, 1) := by decide +kernel
theorem dX11_add_59 : decode cX11_add 59 = .ok (.getfield 10, 3) := by decide +kernel
theorem dX11_add_62 : decode cX11_add 62 = .ok (.getfield 44, 3) := by decide +kernel
theorem dX11_add_65 : decode cX11_add 65 = .ok (.getfield 48, 3) := by decide +kernel
theorem dX11_add_68 : decode cX11_add 68 = .ok (.iconst 1, 1) := by decide +kernel
theorem dX11_add_69 : decode cX11_add 69 = .ok (.isub, 1) := by decide +kernel
theorem dX11_add_70 : decode cX11_add 70 = .ok (.ireturn, 1) := by decide +kernel
set_option maxRecDepth 20000 in
theorem ggX11_remove_X4_has : GoodIn wsX11_remove wsX4_has := goodIn_r _ [8, 9, 50, 51] (by decide +kernel) (by decide +kernel)
set_option maxRecDepth 20000 in
theorem gX11_remove_X4_has : GoodIn wsX11_remove (wsV RX11 61 RX4 yX4_has wsX4_has) := goodIn_app (goodIn_of _ (by decide +kernel)) ggX11_remove_X4_has
set_option maxRecDepth 20000 in
theorem ggX11_remove_X2_keep : GoodIn wsX11_remove wsX2_keep := goodIn_r _ [14, 15, 16, 17, 18, 19, 13, 20, 21, 22, 23, 24, 25, 26, 27, 28, 29, 30, 31, 7, 32, 33, 9, 34, 35, 36, 37, 52, 53, 47, 48, 49, 50, 51] (by decide +kernel) (by decide +kernel)
set_option maxRecDepth 20000 in
theorem gX11_remove_X2_keep : GoodIn wsX11_remove (wsV RX11 53 RX2 yX2_keep wsX2_keep) := goodIn_app (goodIn_of _ (by decide +kernel)) ggX11_remove_X2_keep
set_option maxRecDepth 20000 in
theorem ggX11_remove_X4_takeOut : GoodIn wsX11_remove wsX4_takeOut := goodIn_r _ [41, 33, 9, 34, 35, 36, 37, 42, 5, 6, 7, 8, 50, 51] (by decide +kernel) (by decide +kernel)
set_option maxRecDepth 20000 in
theorem gX11_remove_X4_takeOut : GoodIn wsX11_remove (wsV RX11 65 RX4 yX4_takeOut wsX4_takeOut) := goodIn_app (goodIn_of _ (by decide +kernel)) ggX11_remove_X4_takeOut
theorem dX11_remove_0 : decode cX11_remove 0 = .ok (.aload_n 0, 1) := by decide +kernel
theorem dX11_remove_1 : decode cX11_remove 1 = .ok (.getfield 10, 3) := by decide +kernel
theorem dX11_remove_4 : decode cX11_remove 4 = .ok (.getfield 44, 3) := by decide +kernel
theorem dX11_remove_7 : decode cX11_remove 7 = .ok (.iload_n 1, 1) := by decide +kernel
theorem dX11_remove_8 : decode cX11_remove 8 = .ok (.invokevirtual 61, 3) := by decide +kernel
theorem dX11_remove_11 : decode cX11_remove 11 = .ok (.ifCond .ne 6, 3) := by decide +kernel
theorem dX11_remove_14 : decode cX11_remove 14 = .ok (.ldc 43, 2) := by decide +kernel
theorem dX11_remove_16 : decode cX11_remove 16 = .ok (.ireturn, 1) := by decide +kernel
theorem dX11_remove_17 : decode cX11_remove 17 = .ok (.aload_n 0, 1) := by decide +kernel
theorem dX11_remove_18 : decode cX11_remove 18 = .ok (.getfield 19, 3) := by decide +kernel
theorem dX11_remove_21 : decode cX11_remove 21 = .ok (.aload_n 0, 1) := by decide +kernel
theorem dX11_remove_22 : decode cX11_remove 22 = .ok (.getfield 10, 3) := by decide +kernel
theorem dX11_remove_25 : decode cX11_remove 25 = .ok (.invokevirtual 53, 3) := by decide +kernel
theorem dX11_remove_28 : decode cX11_remove 28 = .ok (.aload_n 0, 1) := by decide +kernel
theorem dX11_remove_29 : decode cX11_remove 29 = .ok (.getfield 10, 3) := by decide +kernel
theorem dX11_remove_32 : decode cX11_remove 32 = .ok (.getfield 44, 3) := by decide +kernel
theorem dX11_remove_35 : decode cX11_remove 35 = .ok (.iload_n 1, 1) := by decide +kernel
theorem dX11_remove_36 : decode cX11_remove 36 = .ok (.invokevirtual 65, 3) := by decide +kernel
theorem dX11_remove_39 : decode cX11_remove 39 = .ok (.aload_n 0, 1) := by decide +kernel
theorem dX11_remove_40 : decode cX11_remove 40 = .ok (.getfield 10, 3) := by decide +kernel
theorem dX11_remove_43 : decode cX11_remove 43 = .ok (.getfield 44, 3) := by decide +kernel
theorem dX11_remove_46 : decode cX11_remove 46 = .ok (.getfield 48, 3) := by decide +kernel
theorem dX11_remove_49 : decode cX11_remove 49 = .ok (.ireturn, 1) := by decide +kernel
set_option maxRecDepth 20000 in
theorem ggX11_part_X4_numberOf : GoodIn wsX11_part wsX4_numberOf := goodIn_r _ [6, 7, 8, 9, 10, 11, 5, 12, 13, 21, 22] (by decide +kernel) (by decide +kernel)
set_option maxRecDepth 20000 in
theorem gX11_part_X4_numberOf : GoodIn wsX11_part (wsV RX11 69 RX4 yX4_numberOf wsX4_numberOf) := goodIn_app (goodIn_of _ (by decide +kernel)) ggX11_part_X4_numberOf
theorem dX11_part_0 : decode cX11_part 0 = .ok (.aload_n 0, 1) := by decide +kernel
theorem dX11_part_1 : decode cX11_part 1 = .ok (.getfield 10, 3) := by decide +kernel
theorem dX11_part_4 : decode cX11_part 4 = .ok (.getfield 44, 3) := by decide +kernel
theorem dX11_part_7 : decode cX11_part 7 = .ok (.iload_n 1, 1) := by decide +kernel
theorem dX11_part_8 : decode cX11_part 8 = .ok (.iload_n 2, 1) := by decide +kernel
theorem dX11_part_9 : decode cX11_part 9 = .ok (.invokevirtual 69, 3) := by decide +kernel
theorem dX11_part_12 : decode cX11_part 12 = .ok (.ireturn, 1) := by decide +kernel
theorem dX11_parts_0 : decode cX11_parts 0 = .ok (.aload_n 0, 1) := by decide +kernel
theorem dX11_parts_1 : decode cX11_parts 1 = .ok (.getfield 10, 3) := by decide +kernel
theorem dX11_parts_4 : decode cX11_parts 4 = .ok (.getfield 44, 3) := by decide +kernel
theorem dX11_parts_7 : decode cX11_parts 7 = .ok (.getfield 48, 3) := by decide +kernel
theorem dX11_parts_10 : decode cX11_parts 10 = .ok (.ireturn, 1) := by decide +kernel
set_option maxRecDepth 20000 in
theorem ggX11_setLoss_X2_keep : GoodIn wsX11_setLoss wsX2_keep := goodIn_r _ [8, 9, 10, 11, 12, 13, 7, 14, 15, 16, 17, 18, 19, 20, 21, 22, 23, 24, 25, 26, 27, 28, 29, 30, 31, 32, 33, 41, 42, 38, 39, 40, 43, 44] (by decide +kernel) (by decide +kernel)
set_option maxRecDepth 20000 in
theorem gX11_setLoss_X2_keep : GoodIn wsX11_setLoss (wsV RX11 53 RX2 yX2_keep wsX2_keep) := goodIn_app (goodIn_of _ (by decide +kernel)) ggX11_setLoss_X2_keep
theorem dX11_setLoss_0 : decode cX11_setLoss 0 = .ok (.iload_n 1, 1) := by decide +kernel
theorem dX11_setLoss_1 : decode cX11_setLoss 1 = .ok (.ifCond .lt 10, 3) := by decide +kernel
theorem dX11_setLoss_4 : decode cX11_setLoss 4 = .ok (.iload_n 1, 1) := by decide +kernel
theorem dX11_setLoss_5 : decode cX11_setLoss 5 = .ok (.sipush 999, 3) := by decide +kernel
theorem dX11_setLoss_8 : decode cX11_setLoss 8 = .ok (.if_icmp .le 6, 3) := by decide +kernel
theorem dX11_setLoss_11 : decode cX11_setLoss 11 = .ok (.ldc 43, 2) := by decide +kernel
theorem dX11_setLoss_13 : decode cX11_setLoss 13 = .ok (.ireturn, 1) := by decide +kernel
theorem dX11_setLoss_14 : decode cX11_setLoss 14 = .ok (.aload_n 0, 1) := by decide +kernel
theorem dX11_setLoss_15 : decode cX11_setLoss 15 = .ok (.getfield 19, 3) := by decide +kernel
theorem dX11_setLoss_18 : decode cX11_setLoss 18 = .ok (.aload_n 0, 1) := by decide +kernel
theorem dX11_setLoss_19 : decode cX11_setLoss 19 = .ok (.getfield 10, 3) := by decide +kernel
theorem dX11_setLoss_22 : decode cX11_setLoss 22 = .ok (.invokevirtual 53, 3) := by decide +kernel
theorem dX11_setLoss_25 : decode cX11_setLoss 25 = .ok (.aload_n 0, 1) := by decide +kernel
theorem dX11_setLoss_26 : decode cX11_setLoss 26 = .ok (.getfield 10, 3) := by decide +kernel
theorem dX11_setLoss_29 : decode cX11_setLoss 29 = .ok (.getfield 73, 3) := by decide +kernel
theorem dX11_setLoss_32 : decode cX11_setLoss 32 = .ok (.istore_n 2, 1) := by decide +kernel
theorem dX11_setLoss_33 : decode cX11_setLoss 33 = .ok (.aload_n 0, 1) := by decide +kernel
theorem dX11_setLoss_34 : decode cX11_setLoss 34 = .ok (.getfield 10, 3) := by decide +kernel
theorem dX11_setLoss_37 : decode cX11_setLoss 37 = .ok (.iload_n 1, 1) := by decide +kernel
theorem dX11_setLoss_38 : decode cX11_setLoss 38 = .ok (.putfield 73, 3) := by decide +kernel
theorem dX11_setLoss_41 : decode cX11_setLoss 41 = .ok (.iload_n 2, 1) := by decide +kernel
theorem dX11_setLoss_42 : decode cX11_setLoss 42 = .ok (.ireturn, 1) := by decide +kernel
set_option maxRecDepth 20000 in
theorem ggX11_setThreshold_X2_keep : GoodIn wsX11_setThreshold wsX2_keep := goodIn_r _ [9, 10, 11, 12, 13, 14, 8, 15, 16, 17, 18, 19, 20, 21, 22, 23, 24, 25, 26, 27, 28, 29, 30, 31, 32, 33, 34, 42, 43, 39, 40, 41, 44, 45] (by decide +kernel) (by decide +kernel)
set_option maxRecDepth 20000 in
theorem gX11_setThreshold_X2_keep : GoodIn wsX11_setThreshold (wsV RX11 53 RX2 yX2_keep wsX2_keep) := goodIn_app (goodIn_of _ (by decide +kernel)) ggX11_setThreshold_X2_keep
theorem dX11_setThreshold_0 : decode cX11_setThreshold 0 = .ok (.iload_n 1, 1) := by decide +kernel
theorem dX11_setThreshold_1 : decode cX11_setThreshold 1 = .ok (.iconst 1, 1) := by decide +kernel
theorem dX11_setThreshold_2 : decode cX11_setThreshold 2 = .ok (.if_icmp .lt 9, 3) := by decide +kernel
theorem dX11_setThreshold_5 : decode cX11_setThreshold 5 = .ok (.iload_n 1, 1) := by decide +kernel
theorem dX11_setThreshold_6 : decode cX11_setThreshold 6 = .ok (.ldc 76, 2) := by decide +kernel
theorem dX11_setThreshold_8 : decode cX11_setThreshold 8 = .ok (.if_icmp .le 6, 3) := by decide +kernel
theorem dX11_setThreshold_11 : decode cX11_setThreshold 11 = .ok (.ldc 43, 2) := by decide +kernel
theorem dX11_setThreshold_13 : decode cX11_setThreshold 13 = .ok (.ireturn, 1) := by decide +kernel
theorem dX11_setThreshold_14 : decode cX11_setThreshold 14 = .ok (.aload_n 0, 1) := by decide +kernel
theorem dX11_setThreshold_15 : decode cX11_setThreshold 15 = .ok (.getfield 19, 3) := by decide +kernel
theorem dX11_setThreshold_18 : decode cX11_setThreshold 18 = .ok (.aload_n 0, 1) := by decide +kernel
theorem dX11_setThreshold_19 : decode cX11_setThreshold 19 = .ok (.getfield 10, 3) := by decide +kernel
theorem dX11_setThreshold_22 : decode cX11_setThreshold 22 = .ok (.invokevirtual 53, 3) := by decide +kernel
theorem dX11_setThreshold_25 : decode cX11_setThreshold 25 = .ok (.aload_n 0, 1) := by decide +kernel
theorem dX11_setThreshold_26 : decode cX11_setThreshold 26 = .ok (.getfield 10, 3) := by decide +kernel
theorem dX11_setThreshold_29 : decode cX11_setThreshold 29 = .ok (.getfield 77, 3) := by decide +kernel
theorem dX11_setThreshold_32 : decode cX11_setThreshold 32 = .ok (.istore_n 2, 1) := by decide +kernel
theorem dX11_setThreshold_33 : decode cX11_setThreshold 33 = .ok (.aload_n 0, 1) := by decide +kernel
theorem dX11_setThreshold_34 : decode cX11_setThreshold 34 = .ok (.getfield 10, 3) := by decide +kernel
theorem dX11_setThreshold_37 : decode cX11_setThreshold 37 = .ok (.iload_n 1, 1) := by decide +kernel
theorem dX11_setThreshold_38 : decode cX11_setThreshold 38 = .ok (.putfield 77, 3) := by decide +kernel
theorem dX11_setThreshold_41 : decode cX11_setThreshold 41 = .ok (.iload_n 2, 1) := by decide +kernel
theorem dX11_setThreshold_42 : decode cX11_setThreshold 42 = .ok (.ireturn, 1) := by decide +kernel
set_option maxRecDepth 20000 in
theorem ggX11_type_X9_append : GoodIn wsX11_type wsX9_append := goodIn_r _ [8, 9, 10, 15, 16, 17, 18, 19, 20] (by decide +kernel) (by decide +kernel)
set_option maxRecDepth 20000 in
theorem gX11_type_X9_append : GoodIn wsX11_type (wsV RX11 83 RX9 yX9_append wsX9_append) := goodIn_app (goodIn_of _ (by decide +kernel)) ggX11_type_X9_append
theorem dX11_type_0 : decode cX11_type 0 = .ok (.iload_n 1, 1) := by decide +kernel
theorem dX11_type_1 : decode cX11_type 1 = .ok (.bipush 32, 2) := by decide +kernel
theorem dX11_type_3 : decode cX11_type 3 = .ok (.if_icmp .lt 9, 3) := by decide +kernel
theorem dX11_type_6 : decode cX11_type 6 = .ok (.iload_n 1, 1) := by decide +kernel
theorem dX11_type_7 : decode cX11_type 7 = .ok (.bipush 126, 2) := by decide +kernel
theorem dX11_type_9 : decode cX11_type 9 = .ok (.if_icmp .le 6, 3) := by decide +kernel
theorem dX11_type_12 : decode cX11_type 12 = .ok (.ldc 43, 2) := by decide +kernel
theorem dX11_type_14 : decode cX11_type 14 = .ok (.ireturn, 1) := by decide +kernel
theorem dX11_type_15 : decode cX11_type 15 = .ok (.aload_n 0, 1) := by decide +kernel
theorem dX11_type_16 : decode cX11_type 16 = .ok (.getfield 26, 3) := by decide +kernel
theorem dX11_type_19 : decode cX11_type 19 = .ok (.getfield 80, 3) := by decide +kernel
theorem dX11_type_22 : decode cX11_type 22 = .ok (.bipush 60, 2) := by decide +kernel
theorem dX11_type_24 : decode cX11_type 24 = .ok (.if_icmp .lt 6, 3) := by decide +kernel
theorem dX11_type_27 : decode cX11_type 27 = .ok (.ldc 52, 2) := by decide +kernel
theorem dX11_type_29 : decode cX11_type 29 = .ok (.ireturn, 1) := by decide +kernel
theorem dX11_type_30 : decode cX11_type 30 = .ok (.aload_n 0, 1) := by decide +kernel
theorem dX11_type_31 : decode cX11_type 31 = .ok (.getfield 26, 3) := by decide +kernel
theorem dX11_type_34 : decode cX11_type 34 = .ok (.iload_n 1, 1) := by decide +kernel
theorem dX11_type_35 : decode cX11_type 35 = .ok (.i2c, 1) := by decide +kernel
theorem dX11_type_36 : decode cX11_type 36 = .ok (.invokevirtual 83, 3) := by decide +kernel
theorem dX11_type_39 : decode cX11_type 39 = .ok (.aload_n 0, 1) := by decide +kernel
theorem dX11_type_40 : decode cX11_type 40 = .ok (.getfield 26, 3) := by decide +kernel
theorem dX11_type_43 : decode cX11_type 43 = .ok (.getfield 80, 3) := by decide +kernel
theorem dX11_type_46 : decode cX11_type 46 = .ok (.ireturn, 1) := by decide +kernel
theorem dX11_clear_0 : decode cX11_clear 0 = .ok (.aload_n 0, 1) := by decide +kernel
theorem dX11_clear_1 : decode cX11_clear 1 = .ok (.getfield 26, 3) := by decide +kernel
theorem dX11_clear_4 : decode cX11_clear 4 = .ok (.getfield 80, 3) := by decide +kernel
theorem dX11_clear_7 : decode cX11_clear 7 = .ok (.istore_n 1, 1) := by decide +kernel
theorem dX11_clear_8 : decode cX11_clear 8 = .ok (.aload_n 0, 1) := by decide +kernel
theorem dX11_clear_9 : decode cX11_clear 9 = .ok (.getfield 26, 3) := by decide +kernel
theorem dX11_clear_12 : decode cX11_clear 12 = .ok (.iconst 0, 1) := by decide +kernel
theorem dX11_clear_13 : decode cX11_clear 13 = .ok (.putfield 80, 3) := by decide +kernel
theorem dX11_clear_16 : decode cX11_clear 16 = .ok (.iload_n 1, 1) := by decide +kernel
theorem dX11_clear_17 : decode cX11_clear 17 = .ok (.ireturn, 1) := by decide +kernel
set_option maxRecDepth 20000 in
theorem ggX11_read_X9_errorPlace : GoodIn wsX11_read wsX9_errorPlace := goodIn_r _ [9, 10, 11, 12, 13, 14, 15, 16, 17, 8, 18, 19, 20, 21, 22, 23, 24, 25, 26, 27, 28, 29, 30, 31, 32, 33, 34, 35, 36, 37, 38, 39, 40, 41, 42, 43, 44, 45, 46, 47, 48, 49, 50, 51, 52, 53, 54, 55, 56, 57, 58, 59, 60, 61, 62, 63, 64, 65, 66, 67, 68, 69, 70, 71, 72, 73, 74, 75, 76, 77, 78, 79, 80, 81, 82, 83, 84, 85, 86, 87, 88, 89, 90, 91, 92, 93, 94, 95, 96, 97, 98, 99, 100, 101, 102, 103, 104, 105, 106, 107, 108, 109, 110, 111, 112, 113, 114, 115, 116, 117, 118, 169, 170, 171, 172, 173, 174, 167, 168] (by decide +kernel) (by decide +kernel)
set_option maxRecDepth 20000 in
theorem gX11_read_X9_errorPlace : GoodIn wsX11_read (wsV RX11 86 RX9 yX9_errorPlace wsX9_errorPlace) := goodIn_app (goodIn_of _ (by decide +kernel)) ggX11_read_X9_errorPlace
set_option maxRecDepth 20000 in
theorem ggX11_read_X2_keep : GoodIn wsX11_read wsX2_keep := goodIn_r _ [123, 124, 125, 126, 127, 128, 122, 129, 130, 131, 132, 133, 134, 135, 136, 137, 138, 139, 140, 29, 141, 118, 117, 142, 143, 144, 145, 175, 176, 164, 165, 166, 167, 168] (by decide +kernel) (by decide +kernel)
set_option maxRecDepth 20000 in
theorem gX11_read_X2_keep : GoodIn wsX11_read (wsV RX11 53 RX2 yX2_keep wsX2_keep) := goodIn_app (goodIn_of _ (by decide +kernel)) ggX11_read_X2_keep
set_option maxRecDepth 20000 in
theorem ggX11_read_X4_appendAll : GoodIn wsX11_read wsX4_appendAll := goodIn_r _ [149, 117, 150, 151, 152, 29, 153, 154, 118, 155, 156, 157, 158, 159, 114, 115, 116, 167, 168] (by decide +kernel) (by decide +kernel)
set_option maxRecDepth 20000 in
theorem gX11_read_X4_appendAll : GoodIn wsX11_read (wsV RX11 93 RX4 yX4_appendAll wsX4_appendAll) := goodIn_app (goodIn_of _ (by decide +kernel)) ggX11_read_X4_appendAll
theorem dX11_read_0 : decode cX11_read 0 = .ok (.aload_n 0, 1) := by decide +kernel
theorem dX11_read_1 : decode cX11_read 1 = .ok (.getfield 26, 3) := by decide +kernel
theorem dX11_read_4 : decode cX11_read 4 = .ok (.invokevirtual 86, 3) := by decide +kernel
theorem dX11_read_7 : decode cX11_read 7 = .ok (.istore_n 1, 1) := by decide +kernel
theorem dX11_read_8 : decode cX11_read 8 = .ok (.iload_n 1, 1) := by decide +kernel
theorem dX11_read_9 : decode cX11_read 9 = .ok (.ifCond .lt 9, 3) := by decide +kernel
theorem dX11_read_12 : decode cX11_read 12 = .ok (.sipush (-200), 3) := by decide +kernel
theorem dX11_read_15 : decode cX11_read 15 = .ok (.iload_n 1, 1) := by decide +kernel
theorem dX11_read_16 : decode cX11_read 16 = .ok (.isub, 1) := by decide +kernel
theorem dX11_read_17 : decode cX11_read 17 = .ok (.ireturn, 1) := by decide +kernel
theorem dX11_read_18 : decode cX11_read 18 = .ok (.aload_n 0, 1) := by decide +kernel
theorem dX11_read_19 : decode cX11_read 19 = .ok (.getfield 10, 3) := by decide +kernel
theorem dX11_read_22 : decode cX11_read 22 = .ok (.getfield 44, 3) := by decide +kernel
theorem dX11_read_25 : decode cX11_read 25 = .ok (.getfield 48, 3) := by decide +kernel
theorem dX11_read_28 : decode cX11_read 28 = .ok (.aload_n 0, 1) := by decide +kernel
theorem dX11_read_29 : decode cX11_read 29 = .ok (.getfield 26, 3) := by decide +kernel
theorem dX11_read_32 : decode cX11_read 32 = .ok (.getfield 90, 3) := by decide +kernel
theorem dX11_read_35 : decode cX11_read 35 = .ok (.getfield 48, 3) := by decide +kernel
theorem dX11_read_38 : decode cX11_read 38 = .ok (.iadd, 1) := by decide +kernel
theorem dX11_read_39 : decode cX11_read 39 = .ok (.bipush 12, 2) := by decide +kernel
theorem dX11_read_41 : decode cX11_read 41 = .ok (.if_icmp .le 6, 3) := by decide +kernel
theorem dX11_read_44 : decode cX11_read 44 = .ok (.ldc 52, 2) := by decide +kernel
theorem dX11_read_46 : decode cX11_read 46 = .ok (.ireturn, 1) := by decide +kernel
theorem dX11_read_47 : decode cX11_read 47 = .ok (.aload_n 0, 1) := by decide +kernel
theorem dX11_read_48 : decode cX11_read 48 = .ok (.getfield 19, 3) := by decide +kernel
theorem dX11_read_51 : decode cX11_read 51 = .ok (.aload_n 0, 1) := by decide +kernel
theorem dX11_read_52 : decode cX11_read 52 = .ok (.getfield 10, 3) := by decide +kernel
theorem dX11_read_55 : decode cX11_read 55 = .ok (.invokevirtual 53, 3) := by decide +kernel
theorem dX11_read_58 : decode cX11_read 58 = .ok (.aload_n 0, 1) := by decide +kernel
theorem dX11_read_59 : decode cX11_read 59 = .ok (.getfield 10, 3) := by decide +kernel
theorem dX11_read_62 : decode cX11_read 62 = .ok (.getfield 44, 3) := by decide +kernel
theorem dX11_read_65 : decode cX11_read 65 = .ok (.aload_n 0, 1) := by decide +kernel
theorem dX11_read_66 : decode cX11_read 66 = .ok (.getfield 26, 3) := by decide +kernel
theorem dX11_read_69 : decode cX11_read 69 = .ok (.getfield 90, 3) := by decide +kernel
theorem dX11_read_72 : decode cX11_read 72 = .ok (.invokevirtual 93, 3) := by decide +kernel
theorem dX11_read_75 : decode cX11_read 75 = .ok (.aload_n 0, 1) := by decide +kernel
theorem dX11_read_76 : decode cX11_read 76 = .ok (.getfield 26, 3) := by decide +kernel
theorem dX11_read_79 : decode cX11_read 79 = .ok (.iconst 0, 1) := by decide +kernel
theorem dX11_read_80 : decode cX11_read 80 = .ok (.putfield 80, 3) := by decide +kernel
theorem dX11_read_83 : decode cX11_read 83 = .ok (.aload_n 0, 1) := by decide +kernel
theorem dX11_read_84 : decode cX11_read 84 = .ok (.getfield 26, 3) := by decide +kernel
theorem dX11_read_87 : decode cX11_read 87 = .ok (.getfield 90, 3) := by decide +kernel
theorem dX11_read_90 : decode cX11_read 90 = .ok (.getfield 48, 3) := by decide +kernel
theorem dX11_read_93 : decode cX11_read 93 = .ok (.ireturn, 1) := by decide +kernel
set_option maxRecDepth 20000 in
theorem ggX11_shoot_X0_isPlace : GoodIn wsX11_shoot wsX0_isPlace := goodIn_r _ [8] (by decide +kernel) (by decide +kernel)
set_option maxRecDepth 20000 in
theorem gX11_shoot_X0_isPlace : GoodIn wsX11_shoot (va_wsS RX11 97 yX0_isPlace wsX0_isPlace) := goodIn_app (goodIn_of _ (by decide +kernel)) ggX11_shoot_X0_isPlace
set_option maxRecDepth 20000 in
theorem ggX11_shoot_X0_isStep : GoodIn wsX11_shoot wsX0_isStep := goodIn_r _ [11] (by decide +kernel) (by decide +kernel)
set_option maxRecDepth 20000 in
theorem gX11_shoot_X0_isStep : GoodIn wsX11_shoot (va_wsS RX11 102 yX0_isStep wsX0_isStep) := goodIn_app (goodIn_of _ (by decide +kernel)) ggX11_shoot_X0_isStep
set_option maxRecDepth 20000 in
theorem ggX11_shoot_X8_run : GoodIn wsX11_shoot wsX8_run := goodIn_r _ [16, 17, 18, 19, 20, 21, 22, 23, 24, 25, 26, 27, 28, 29, 30, 31, 32, 33, 34, 35, 36, 37, 38, 39, 40, 41, 42, 43, 44, 45, 46, 47, 48, 49, 50, 51, 52, 53, 54, 55, 56, 7, 57, 58, 59, 60, 61, 62, 63, 64, 65, 66, 67, 68, 69, 70, 71, 15, 72, 73, 74, 75, 76, 77, 78, 79, 80, 81, 82, 83, 84, 85, 86, 87, 88, 89, 90, 91, 92, 93, 94, 95, 96, 97, 98, 99, 100, 101, 102, 103, 104, 105, 106, 107, 108, 6, 8, 109, 110, 111, 112, 113, 114, 115, 116, 117, 118, 119, 120, 121, 122, 123, 124, 125, 126, 127, 128, 129, 130, 131, 132, 133, 134, 135, 136, 137, 138, 139, 140, 141, 142, 143, 144, 145, 146, 147, 148, 149, 150, 151, 152, 153, 154, 155, 156, 157, 158, 159, 164, 165, 166, 167, 168, 169, 170, 171, 172, 173, 174, 175, 176, 177, 178, 179, 180, 181, 182, 183, 184, 185, 186, 187, 188, 189, 190] (by decide +kernel) (by decide +kernel)
set_option maxRecDepth 20000 in
theorem gX11_shoot_X8_run : GoodIn wsX11_shoot (wsV RX11 105 RX8 yX8_run wsX8_run) := goodIn_app (goodIn_of _ (by decide +kernel)) ggX11_shoot_X8_run
theorem dX11_shoot_0 : decode cX11_shoot 0 = .ok (.iload_n 1, 1) := by decide +kernel
theorem dX11_shoot_1 : decode cX11_shoot 1 = .ok (.invokestatic 97, 3) := by decide +kernel
theorem dX11_shoot_4 : decode cX11_shoot 4 = .ok (.ifCond .eq 21, 3) := by decide +kernel
theorem dX11_shoot_7 : decode cX11_shoot 7 = .ok (.iload_n 2, 1) := by decide +kernel
theorem dX11_shoot_8 : decode cX11_shoot 8 = .ok (.invokestatic 102, 3) := by decide +kernel
theorem dX11_shoot_11 : decode cX11_shoot 11 = .ok (.ifCond .eq 14, 3) := by decide +kernel
theorem dX11_shoot_14 : decode cX11_shoot 14 = .ok (.iload_n 3, 1) := by decide +kernel
theorem dX11_shoot_15 : decode cX11_shoot 15 = .ok (.iconst 1, 1) := by decide +kernel
theorem dX11_shoot_16 : decode cX11_shoot 16 = .ok (.if_icmp .lt 9, 3) := by decide +kernel
theorem dX11_shoot_19 : decode cX11_shoot 19 = .ok (.iload_n 3, 1) := by decide +kernel
theorem dX11_shoot_20 : decode cX11_shoot 20 = .ok (.ldc 76, 2) := by decide +kernel
theorem dX11_shoot_22 : decode cX11_shoot 22 = .ok (.if_icmp .le 6, 3) := by decide +kernel
theorem dX11_shoot_25 : decode cX11_shoot 25 = .ok (.ldc 43, 2) := by decide +kernel
theorem dX11_shoot_27 : decode cX11_shoot 27 = .ok (.ireturn, 1) := by decide +kernel
theorem dX11_shoot_28 : decode cX11_shoot 28 = .ok (.aload_n 0, 1) := by decide +kernel
theorem dX11_shoot_29 : decode cX11_shoot 29 = .ok (.getfield 33, 3) := by decide +kernel
theorem dX11_shoot_32 : decode cX11_shoot 32 = .ok (.aload_n 0, 1) := by decide +kernel
theorem dX11_shoot_33 : decode cX11_shoot 33 = .ok (.getfield 10, 3) := by decide +kernel
theorem dX11_shoot_36 : decode cX11_shoot 36 = .ok (.iload_n 1, 1) := by decide +kernel
theorem dX11_shoot_37 : decode cX11_shoot 37 = .ok (.iload_n 2, 1) := by decide +kernel
theorem dX11_shoot_38 : decode cX11_shoot 38 = .ok (.iload_n 3, 1) := by decide +kernel
theorem dX11_shoot_39 : decode cX11_shoot 39 = .ok (.invokevirtual 105, 3) := by decide +kernel
theorem dX11_shoot_42 : decode cX11_shoot 42 = .ok (.aload_n 0, 1) := by decide +kernel
theorem dX11_shoot_43 : decode cX11_shoot 43 = .ok (.getfield 33, 3) := by decide +kernel
theorem dX11_shoot_46 : decode cX11_shoot 46 = .ok (.getfield 109, 3) := by decide +kernel
theorem dX11_shoot_49 : decode cX11_shoot 49 = .ok (.getfield 113, 3) := by decide +kernel
theorem dX11_shoot_52 : decode cX11_shoot 52 = .ok (.ireturn, 1) := by decide +kernel
theorem dX11_hits_0 : decode cX11_hits 0 = .ok (.aload_n 0, 1) := by decide +kernel
theorem dX11_hits_1 : decode cX11_hits 1 = .ok (.getfield 33, 3) := by decide +kernel
theorem dX11_hits_4 : decode cX11_hits 4 = .ok (.getfield 109, 3) := by decide +kernel
theorem dX11_hits_7 : decode cX11_hits 7 = .ok (.getfield 113, 3) := by decide +kernel
theorem dX11_hits_10 : decode cX11_hits 10 = .ok (.ireturn, 1) := by decide +kernel
set_option maxRecDepth 20000 in
theorem ggX11_hit_X3_numberOf : GoodIn wsX11_hit wsX3_numberOf := goodIn_r _ [6, 7, 8, 9, 20, 21, 22, 23, 24] (by decide +kernel) (by decide +kernel)
set_option maxRecDepth 20000 in
theorem gX11_hit_X3_numberOf : GoodIn wsX11_hit (wsV RX11 116 RX3 yX3_numberOf wsX3_numberOf) := goodIn_app (goodIn_of _ (by decide +kernel)) ggX11_hit_X3_numberOf
theorem dX11_hit_0 : decode cX11_hit 0 = .ok (.aload_n 0, 1) := by decide +kernel
theorem dX11_hit_1 : decode cX11_hit 1 = .ok (.getfield 33, 3) := by decide +kernel
theorem dX11_hit_4 : decode cX11_hit 4 = .ok (.getfield 109, 3) := by decide +kernel
theorem dX11_hit_7 : decode cX11_hit 7 = .ok (.iload_n 1, 1) := by decide +kernel
theorem dX11_hit_8 : decode cX11_hit 8 = .ok (.iload_n 2, 1) := by decide +kernel
theorem dX11_hit_9 : decode cX11_hit 9 = .ok (.invokevirtual 116, 3) := by decide +kernel
theorem dX11_hit_12 : decode cX11_hit 12 = .ok (.lreturn, 1) := by decide +kernel
theorem dX11_rays_0 : decode cX11_rays 0 = .ok (.aload_n 0, 1) := by decide +kernel
theorem dX11_rays_1 : decode cX11_rays 1 = .ok (.getfield 33, 3) := by decide +kernel
theorem dX11_rays_4 : decode cX11_rays 4 = .ok (.getfield 119, 3) := by decide +kernel
theorem dX11_rays_7 : decode cX11_rays 7 = .ok (.ireturn, 1) := by decide +kernel
theorem dX11_coverage_0 : decode cX11_coverage 0 = .ok (.aload_n 0, 1) := by decide +kernel
theorem dX11_coverage_1 : decode cX11_coverage 1 = .ok (.getfield 33, 3) := by decide +kernel
theorem dX11_coverage_4 : decode cX11_coverage 4 = .ok (.getfield 122, 3) := by decide +kernel
theorem dX11_coverage_7 : decode cX11_coverage 7 = .ok (.getfield 126, 3) := by decide +kernel
theorem dX11_coverage_10 : decode cX11_coverage 10 = .ok (.ireturn, 1) := by decide +kernel
set_option maxRecDepth 20000 in
theorem ggX11_gap_X6_longestGap : GoodIn wsX11_gap wsX6_longestGap := goodIn_r _ [6, 7, 8, 9, 10, 11, 12, 13, 14, 5, 15, 16, 17, 18, 19, 20, 21, 22, 33, 34] (by decide +kernel) (by decide +kernel)
set_option maxRecDepth 20000 in
theorem gX11_gap_X6_longestGap : GoodIn wsX11_gap (wsV RX11 129 RX6 yX6_longestGap wsX6_longestGap) := goodIn_app (goodIn_of _ (by decide +kernel)) ggX11_gap_X6_longestGap
theorem dX11_gap_0 : decode cX11_gap 0 = .ok (.aload_n 0, 1) := by decide +kernel
theorem dX11_gap_1 : decode cX11_gap 1 = .ok (.getfield 33, 3) := by decide +kernel
theorem dX11_gap_4 : decode cX11_gap 4 = .ok (.getfield 122, 3) := by decide +kernel
theorem dX11_gap_7 : decode cX11_gap 7 = .ok (.invokevirtual 129, 3) := by decide +kernel
theorem dX11_gap_10 : decode cX11_gap 10 = .ok (.ireturn, 1) := by decide +kernel
set_option maxRecDepth 20000 in
theorem ggX11_heard_X1_numberOf : GoodIn wsX11_heard wsX1_numberOf := goodIn_r _ [6, 7, 8, 19] (by decide +kernel) (by decide +kernel)
set_option maxRecDepth 20000 in
theorem gX11_heard_X1_numberOf : GoodIn wsX11_heard (wsV RX11 136 RX1 yX1_numberOf wsX1_numberOf) := goodIn_app (goodIn_of _ (by decide +kernel)) ggX11_heard_X1_numberOf
theorem dX11_heard_0 : decode cX11_heard 0 = .ok (.aload_n 0, 1) := by decide +kernel
theorem dX11_heard_1 : decode cX11_heard 1 = .ok (.getfield 33, 3) := by decide +kernel
theorem dX11_heard_4 : decode cX11_heard 4 = .ok (.getfield 132, 3) := by decide +kernel
theorem dX11_heard_7 : decode cX11_heard 7 = .ok (.iload_n 1, 1) := by decide +kernel
theorem dX11_heard_8 : decode cX11_heard 8 = .ok (.iload_n 2, 1) := by decide +kernel
theorem dX11_heard_9 : decode cX11_heard 9 = .ok (.invokevirtual 136, 3) := by decide +kernel
theorem dX11_heard_12 : decode cX11_heard 12 = .ok (.lreturn, 1) := by decide +kernel
set_option maxRecDepth 20000 in
theorem ggX11_echo_X3_echoAt : GoodIn wsX11_echo wsX3_echoAt := goodIn_r _ [6, 7, 8, 9, 10, 21, 22, 23, 24, 25] (by decide +kernel) (by decide +kernel)
set_option maxRecDepth 20000 in
theorem gX11_echo_X3_echoAt : GoodIn wsX11_echo (wsV RX11 139 RX3 yX3_echoAt wsX3_echoAt) := goodIn_app (goodIn_of _ (by decide +kernel)) ggX11_echo_X3_echoAt
theorem dX11_echo_0 : decode cX11_echo 0 = .ok (.aload_n 0, 1) := by decide +kernel
theorem dX11_echo_1 : decode cX11_echo 1 = .ok (.getfield 33, 3) := by decide +kernel
theorem dX11_echo_4 : decode cX11_echo 4 = .ok (.getfield 109, 3) := by decide +kernel
theorem dX11_echo_7 : decode cX11_echo 7 = .ok (.iload_n 1, 1) := by decide +kernel
theorem dX11_echo_8 : decode cX11_echo 8 = .ok (.invokevirtual 139, 3) := by decide +kernel
theorem dX11_echo_11 : decode cX11_echo 11 = .ok (.ireturn, 1) := by decide +kernel
set_option maxRecDepth 20000 in
theorem ggX11_mean_X3_meanEnergy : GoodIn wsX11_mean wsX3_meanEnergy := goodIn_r _ [6, 7, 8, 19, 20, 21, 22, 23] (by decide +kernel) (by decide +kernel)
set_option maxRecDepth 20000 in
theorem gX11_mean_X3_meanEnergy : GoodIn wsX11_mean (wsV RX11 143 RX3 yX3_meanEnergy wsX3_meanEnergy) := goodIn_app (goodIn_of _ (by decide +kernel)) ggX11_mean_X3_meanEnergy
theorem dX11_mean_0 : decode cX11_mean 0 = .ok (.aload_n 0, 1) := by decide +kernel
theorem dX11_mean_1 : decode cX11_mean 1 = .ok (.getfield 33, 3) := by decide +kernel
theorem dX11_mean_4 : decode cX11_mean 4 = .ok (.getfield 109, 3) := by decide +kernel
theorem dX11_mean_7 : decode cX11_mean 7 = .ok (.invokevirtual 143, 3) := by decide +kernel
theorem dX11_mean_10 : decode cX11_mean 10 = .ok (.freturn, 1) := by decide +kernel
set_option maxRecDepth 20000 in
theorem ggX11_crossings_X5_crossingPairs : GoodIn wsX11_crossings wsX5_crossingPairs := goodIn_r _ [7, 8, 9, 10, 11, 12, 13, 14, 15, 6, 16, 17, 18, 19, 20, 21, 22, 23, 24, 25, 36, 37] (by decide +kernel) (by decide +kernel)
set_option maxRecDepth 20000 in
theorem gX11_crossings_X5_crossingPairs : GoodIn wsX11_crossings (wsV RX11 151 RX5 yX5_crossingPairs wsX5_crossingPairs) := goodIn_app (goodIn_of _ (by decide +kernel)) ggX11_crossings_X5_crossingPairs
theorem dX11_crossings_0 : decode cX11_crossings 0 = .ok (.iload_n 1, 1) := by decide +kernel
theorem dX11_crossings_1 : decode cX11_crossings 1 = .ok (.ifCond .lt 10, 3) := by decide +kernel
theorem dX11_crossings_4 : decode cX11_crossings 4 = .ok (.iload_n 1, 1) := by decide +kernel
theorem dX11_crossings_5 : decode cX11_crossings 5 = .ok (.sipush 200, 3) := by decide +kernel
theorem dX11_crossings_8 : decode cX11_crossings 8 = .ok (.if_icmp .le 6, 3) := by decide +kernel
theorem dX11_crossings_11 : decode cX11_crossings 11 = .ok (.ldc 43, 2) := by decide +kernel
theorem dX11_crossings_13 : decode cX11_crossings 13 = .ok (.ireturn, 1) := by decide +kernel
theorem dX11_crossings_14 : decode cX11_crossings 14 = .ok (.aload_n 0, 1) := by decide +kernel
theorem dX11_crossings_15 : decode cX11_crossings 15 = .ok (.getfield 33, 3) := by decide +kernel
theorem dX11_crossings_18 : decode cX11_crossings 18 = .ok (.getfield 147, 3) := by decide +kernel
theorem dX11_crossings_21 : decode cX11_crossings 21 = .ok (.iload_n 1, 1) := by decide +kernel
theorem dX11_crossings_22 : decode cX11_crossings 22 = .ok (.invokevirtual 151, 3) := by decide +kernel
theorem dX11_crossings_25 : decode cX11_crossings 25 = .ok (.ireturn, 1) := by decide +kernel
set_option maxRecDepth 20000 in
theorem ggX11_time_X0_isStep : GoodIn wsX11_time wsX0_isStep := goodIn_r _ [5] (by decide +kernel) (by decide +kernel)
set_option maxRecDepth 20000 in
theorem gX11_time_X0_isStep : GoodIn wsX11_time (va_wsS RX11 102 yX0_isStep wsX0_isStep) := goodIn_app (goodIn_of _ (by decide +kernel)) ggX11_time_X0_isStep
set_option maxRecDepth 20000 in
theorem ggX11_time_X0_chordTime : GoodIn wsX11_time wsX0_chordTime := goodIn_r _ [8, 9, 10, 11, 12, 13, 14, 15, 4, 16, 17, 18, 19] (by decide +kernel) (by decide +kernel)
set_option maxRecDepth 20000 in
theorem gX11_time_X0_chordTime : GoodIn wsX11_time (va_wsS RX11 156 yX0_chordTime wsX0_chordTime) := goodIn_app (goodIn_of _ (by decide +kernel)) ggX11_time_X0_chordTime
theorem dX11_time_0 : decode cX11_time 0 = .ok (.iload_n 1, 1) := by decide +kernel
theorem dX11_time_1 : decode cX11_time 1 = .ok (.invokestatic 102, 3) := by decide +kernel
theorem dX11_time_4 : decode cX11_time 4 = .ok (.ifCond .eq 10, 3) := by decide +kernel
theorem dX11_time_7 : decode cX11_time 7 = .ok (.iload_n 1, 1) := by decide +kernel
theorem dX11_time_8 : decode cX11_time 8 = .ok (.invokestatic 156, 3) := by decide +kernel
theorem dX11_time_11 : decode cX11_time 11 = .ok (.goto 5, 3) := by decide +kernel
theorem dX11_time_14 : decode cX11_time 14 = .ok (.ldc 43, 2) := by decide +kernel
theorem dX11_time_16 : decode cX11_time 16 = .ok (.ireturn, 1) := by decide +kernel
set_option maxRecDepth 20000 in
theorem ggX11_caustic_X0_isStep : GoodIn wsX11_caustic wsX0_isStep := goodIn_r _ [5] (by decide +kernel) (by decide +kernel)
set_option maxRecDepth 20000 in
theorem gX11_caustic_X0_isStep : GoodIn wsX11_caustic (va_wsS RX11 102 yX0_isStep wsX0_isStep) := goodIn_app (goodIn_of _ (by decide +kernel)) ggX11_caustic_X0_isStep
set_option maxRecDepth 20000 in
theorem ggX11_caustic_X0_causticRadius : GoodIn wsX11_caustic wsX0_causticRadius := goodIn_r _ [8, 9, 10, 11, 12, 13, 14, 15, 4, 16, 17, 18, 19] (by decide +kernel) (by decide +kernel)
set_option maxRecDepth 20000 in
theorem gX11_caustic_X0_causticRadius : GoodIn wsX11_caustic (va_wsS RX11 159 yX0_causticRadius wsX0_causticRadius) := goodIn_app (goodIn_of _ (by decide +kernel)) ggX11_caustic_X0_causticRadius
theorem dX11_caustic_0 : decode cX11_caustic 0 = .ok (.iload_n 1, 1) := by decide +kernel
theorem dX11_caustic_1 : decode cX11_caustic 1 = .ok (.invokestatic 102, 3) := by decide +kernel
theorem dX11_caustic_4 : decode cX11_caustic 4 = .ok (.ifCond .eq 10, 3) := by decide +kernel
theorem dX11_caustic_7 : decode cX11_caustic 7 = .ok (.iload_n 1, 1) := by decide +kernel
theorem dX11_caustic_8 : decode cX11_caustic 8 = .ok (.invokestatic 159, 3) := by decide +kernel
theorem dX11_caustic_11 : decode cX11_caustic 11 = .ok (.goto 5, 3) := by decide +kernel
theorem dX11_caustic_14 : decode cX11_caustic 14 = .ok (.ldc 43, 2) := by decide +kernel
theorem dX11_caustic_16 : decode cX11_caustic 16 = .ok (.ireturn, 1) := by decide +kernel
set_option maxRecDepth 20000 in
theorem ggX11_order_X0_isStep : GoodIn wsX11_order wsX0_isStep := goodIn_r _ [5] (by decide +kernel) (by decide +kernel)
set_option maxRecDepth 20000 in
theorem gX11_order_X0_isStep : GoodIn wsX11_order (va_wsS RX11 102 yX0_isStep wsX0_isStep) := goodIn_app (goodIn_of _ (by decide +kernel)) ggX11_order_X0_isStep
set_option maxRecDepth 20000 in
theorem ggX11_order_X0_sharedDivisor : GoodIn wsX11_order wsX0_sharedDivisor := goodIn_r _ [8, 9, 10, 11, 12] (by decide +kernel) (by decide +kernel)
set_option maxRecDepth 20000 in
theorem gX11_order_X0_sharedDivisor : GoodIn wsX11_order (va_wsS RX11 162 yX0_sharedDivisor wsX0_sharedDivisor) := goodIn_app (goodIn_of _ (by decide +kernel)) ggX11_order_X0_sharedDivisor
theorem dX11_order_0 : decode cX11_order 0 = .ok (.iload_n 1, 1) := by decide +kernel
theorem dX11_order_1 : decode cX11_order 1 = .ok (.invokestatic 102, 3) := by decide +kernel
theorem dX11_order_4 : decode cX11_order 4 = .ok (.ifCond .eq 14, 3) := by decide +kernel
theorem dX11_order_7 : decode cX11_order 7 = .ok (.sipush 27720, 3) := by decide +kernel
theorem dX11_order_10 : decode cX11_order 10 = .ok (.iload_n 1, 1) := by decide +kernel
theorem dX11_order_11 : decode cX11_order 11 = .ok (.invokestatic 162, 3) := by decide +kernel
theorem dX11_order_14 : decode cX11_order 14 = .ok (.idiv, 1) := by decide +kernel
theorem dX11_order_15 : decode cX11_order 15 = .ok (.goto 5, 3) := by decide +kernel
theorem dX11_order_18 : decode cX11_order 18 = .ok (.ldc 43, 2) := by decide +kernel
theorem dX11_order_20 : decode cX11_order 20 = .ok (.ireturn, 1) := by decide +kernel
set_option maxRecDepth 20000 in
theorem ggX11_turns_X0_isStep : GoodIn wsX11_turns wsX0_isStep := goodIn_r _ [9] (by decide +kernel) (by decide +kernel)
set_option maxRecDepth 20000 in
theorem gX11_turns_X0_isStep : GoodIn wsX11_turns (va_wsS RX11 102 yX0_isStep wsX0_isStep) := goodIn_app (goodIn_of _ (by decide +kernel)) ggX11_turns_X0_isStep
set_option maxRecDepth 20000 in
theorem ggX11_turns_X0_sharedDivisor : GoodIn wsX11_turns wsX0_sharedDivisor := goodIn_r _ [12, 13, 2, 3, 4] (by decide +kernel) (by decide +kernel)
set_option maxRecDepth 20000 in
theorem gX11_turns_X0_sharedDivisor : GoodIn wsX11_turns (va_wsS RX11 162 yX0_sharedDivisor wsX0_sharedDivisor) := goodIn_app (goodIn_of _ (by decide +kernel)) ggX11_turns_X0_sharedDivisor
theorem dX11_turns_0 : decode cX11_turns 0 = .ok (.iload_n 1, 1) := by decide +kernel
theorem dX11_turns_1 : decode cX11_turns 1 = .ok (.invokestatic 102, 3) := by decide +kernel
theorem dX11_turns_4 : decode cX11_turns 4 = .ok (.ifCond .eq 15, 3) := by decide +kernel
theorem dX11_turns_7 : decode cX11_turns 7 = .ok (.iload_n 1, 1) := by decide +kernel
theorem dX11_turns_8 : decode cX11_turns 8 = .ok (.invokestatic 165, 3) := by decide +kernel
theorem dX11_turns_11 : decode cX11_turns 11 = .ok (.iload_n 1, 1) := by decide +kernel
theorem dX11_turns_12 : decode cX11_turns 12 = .ok (.invokestatic 162, 3) := by decide +kernel
theorem dX11_turns_15 : decode cX11_turns 15 = .ok (.idiv, 1) := by decide +kernel
theorem dX11_turns_16 : decode cX11_turns 16 = .ok (.goto 5, 3) := by decide +kernel
theorem dX11_turns_19 : decode cX11_turns 19 = .ok (.ldc 43, 2) := by decide +kernel
theorem dX11_turns_21 : decode cX11_turns 21 = .ok (.ireturn, 1) := by decide +kernel
set_option maxRecDepth 20000 in
theorem ggX11_aim_X0_isPlace : GoodIn wsX11_aim wsX0_isPlace := goodIn_r _ [6] (by decide +kernel) (by decide +kernel)
set_option maxRecDepth 20000 in
theorem gX11_aim_X0_isPlace : GoodIn wsX11_aim (va_wsS RX11 97 yX0_isPlace wsX0_isPlace) := goodIn_app (goodIn_of _ (by decide +kernel)) ggX11_aim_X0_isPlace
set_option maxRecDepth 20000 in
theorem ggX11_aim_X0_smallestStep : GoodIn wsX11_aim wsX0_smallestStep := goodIn_r _ [9, 10, 11, 5, 12, 13, 14, 15, 16, 17, 18, 19] (by decide +kernel) (by decide +kernel)
set_option maxRecDepth 20000 in
theorem gX11_aim_X0_smallestStep : GoodIn wsX11_aim (va_wsS RX11 170 yX0_smallestStep wsX0_smallestStep) := goodIn_app (goodIn_of _ (by decide +kernel)) ggX11_aim_X0_smallestStep
theorem dX11_aim_0 : decode cX11_aim 0 = .ok (.iload_n 1, 1) := by decide +kernel
theorem dX11_aim_1 : decode cX11_aim 1 = .ok (.invokestatic 97, 3) := by decide +kernel
theorem dX11_aim_4 : decode cX11_aim 4 = .ok (.ifCond .eq 10, 3) := by decide +kernel
theorem dX11_aim_7 : decode cX11_aim 7 = .ok (.iload_n 2, 1) := by decide +kernel
theorem dX11_aim_8 : decode cX11_aim 8 = .ok (.invokestatic 97, 3) := by decide +kernel
theorem dX11_aim_11 : decode cX11_aim 11 = .ok (.ifCond .ne 6, 3) := by decide +kernel
theorem dX11_aim_14 : decode cX11_aim 14 = .ok (.ldc 43, 2) := by decide +kernel
theorem dX11_aim_16 : decode cX11_aim 16 = .ok (.ireturn, 1) := by decide +kernel
theorem dX11_aim_17 : decode cX11_aim 17 = .ok (.iload_n 3, 1) := by decide +kernel
theorem dX11_aim_18 : decode cX11_aim 18 = .ok (.iconst 1, 1) := by decide +kernel
theorem dX11_aim_19 : decode cX11_aim 19 = .ok (.if_icmp .lt 9, 3) := by decide +kernel
theorem dX11_aim_22 : decode cX11_aim 22 = .ok (.iload_n 3, 1) := by decide +kernel
theorem dX11_aim_23 : decode cX11_aim 23 = .ok (.bipush 50, 2) := by decide +kernel
theorem dX11_aim_25 : decode cX11_aim 25 = .ok (.if_icmp .le 6, 3) := by decide +kernel
theorem dX11_aim_28 : decode cX11_aim 28 = .ok (.ldc 43, 2) := by decide +kernel
theorem dX11_aim_30 : decode cX11_aim 30 = .ok (.ireturn, 1) := by decide +kernel
theorem dX11_aim_31 : decode cX11_aim 31 = .ok (.iload_n 2, 1) := by decide +kernel
theorem dX11_aim_32 : decode cX11_aim 32 = .ok (.iload_n 1, 1) := by decide +kernel
theorem dX11_aim_33 : decode cX11_aim 33 = .ok (.isub, 1) := by decide +kernel
theorem dX11_aim_34 : decode cX11_aim 34 = .ok (.iload_n 3, 1) := by decide +kernel
theorem dX11_aim_35 : decode cX11_aim 35 = .ok (.invokestatic 170, 3) := by decide +kernel
theorem dX11_aim_38 : decode cX11_aim 38 = .ok (.istore 4, 2) := by decide +kernel
theorem dX11_aim_40 : decode cX11_aim 40 = .ok (.iload 4, 2) := by decide +kernel
theorem dX11_aim_42 : decode cX11_aim 42 = .ok (.ifCond .ne 8, 3) := by decide +kernel
theorem dX11_aim_45 : decode cX11_aim 45 = .ok (.ldc 173, 2) := by decide +kernel
theorem dX11_aim_47 : decode cX11_aim 47 = .ok (.goto 5, 3) := by decide +kernel
theorem dX11_aim_50 : decode cX11_aim 50 = .ok (.iload 4, 2) := by decide +kernel
theorem dX11_aim_52 : decode cX11_aim 52 = .ok (.ireturn, 1) := by decide +kernel
set_option maxRecDepth 20000 in
theorem ggX11_widest_X0_causticRadius : GoodIn wsX11_widest wsX0_causticRadius := goodIn_r _ [7, 8, 9, 10, 11, 12, 13, 14, 6, 15, 16, 17, 18] (by decide +kernel) (by decide +kernel)
set_option maxRecDepth 20000 in
theorem gX11_widest_X0_causticRadius : GoodIn wsX11_widest (va_wsS RX11 159 yX0_causticRadius wsX0_causticRadius) := goodIn_app (goodIn_of _ (by decide +kernel)) ggX11_widest_X0_causticRadius
theorem dX11_widest_0 : decode cX11_widest 0 = .ok (.iload_n 1, 1) := by decide +kernel
theorem dX11_widest_1 : decode cX11_widest 1 = .ok (.ifCond .lt 9, 3) := by decide +kernel
theorem dX11_widest_4 : decode cX11_widest 4 = .ok (.iload_n 1, 1) := by decide +kernel
theorem dX11_widest_5 : decode cX11_widest 5 = .ok (.ldc 76, 2) := by decide +kernel
theorem dX11_widest_7 : decode cX11_widest 7 = .ok (.if_icmp .le 6, 3) := by decide +kernel
theorem dX11_widest_10 : decode cX11_widest 10 = .ok (.ldc 43, 2) := by decide +kernel
theorem dX11_widest_12 : decode cX11_widest 12 = .ok (.ireturn, 1) := by decide +kernel
theorem dX11_widest_13 : decode cX11_widest 13 = .ok (.iconst 1, 1) := by decide +kernel
theorem dX11_widest_14 : decode cX11_widest 14 = .ok (.invokestatic 159, 3) := by decide +kernel
theorem dX11_widest_17 : decode cX11_widest 17 = .ok (.iload_n 1, 1) := by decide +kernel
theorem dX11_widest_18 : decode cX11_widest 18 = .ok (.if_icmp .lt 7, 3) := by decide +kernel
theorem dX11_widest_21 : decode cX11_widest 21 = .ok (.iconst 1, 1) := by decide +kernel
theorem dX11_widest_22 : decode cX11_widest 22 = .ok (.goto 5, 3) := by decide +kernel
theorem dX11_widest_25 : decode cX11_widest 25 = .ok (.ldc 173, 2) := by decide +kernel
theorem dX11_widest_27 : decode cX11_widest 27 = .ok (.ireturn, 1) := by decide +kernel
set_option maxRecDepth 20000 in
theorem ggX11_undo_X2_restore : GoodIn wsX11_undo wsX2_restore := goodIn_r _ [8, 9, 10, 11, 12, 13, 14, 15, 16, 17, 18, 19, 20, 21, 22, 23, 24, 25, 26, 27, 28, 29, 34, 35, 36, 37, 38, 39, 40] (by decide +kernel) (by decide +kernel)
set_option maxRecDepth 20000 in
theorem gX11_undo_X2_restore : GoodIn wsX11_undo (wsV RX11 175 RX2 yX2_restore wsX2_restore) := goodIn_app (goodIn_of _ (by decide +kernel)) ggX11_undo_X2_restore
theorem dX11_undo_0 : decode cX11_undo 0 = .ok (.aload_n 0, 1) := by decide +kernel
theorem dX11_undo_1 : decode cX11_undo 1 = .ok (.getfield 19, 3) := by decide +kernel
theorem dX11_undo_4 : decode cX11_undo 4 = .ok (.getfield 174, 3) := by decide +kernel
theorem dX11_undo_7 : decode cX11_undo 7 = .ok (.ifCond .ne 6, 3) := by decide +kernel
theorem dX11_undo_10 : decode cX11_undo 10 = .ok (.ldc 173, 2) := by decide +kernel
theorem dX11_undo_12 : decode cX11_undo 12 = .ok (.ireturn, 1) := by decide +kernel
theorem dX11_undo_13 : decode cX11_undo 13 = .ok (.aload_n 0, 1) := by decide +kernel
theorem dX11_undo_14 : decode cX11_undo 14 = .ok (.getfield 19, 3) := by decide +kernel
theorem dX11_undo_17 : decode cX11_undo 17 = .ok (.aload_n 0, 1) := by decide +kernel
theorem dX11_undo_18 : decode cX11_undo 18 = .ok (.getfield 10, 3) := by decide +kernel
theorem dX11_undo_21 : decode cX11_undo 21 = .ok (.invokevirtual 175, 3) := by decide +kernel
theorem dX11_undo_24 : decode cX11_undo 24 = .ok (.aload_n 0, 1) := by decide +kernel
theorem dX11_undo_25 : decode cX11_undo 25 = .ok (.getfield 19, 3) := by decide +kernel
theorem dX11_undo_28 : decode cX11_undo 28 = .ok (.getfield 174, 3) := by decide +kernel
theorem dX11_undo_31 : decode cX11_undo 31 = .ok (.ireturn, 1) := by decide +kernel
set_option maxRecDepth 20000 in
theorem ggX11_fingerprint_X11_parts : GoodIn wsX11_fingerprint wsX11_parts := goodIn_r _ [7, 2, 64, 65, 66, 67, 68, 69, 70, 71, 72] (by decide +kernel) (by decide +kernel)
set_option maxRecDepth 20000 in
theorem gX11_fingerprint_X11_parts : GoodIn wsX11_fingerprint (wsV RX11 180 RX11 yX11_parts wsX11_parts) := goodIn_app (goodIn_of _ (by decide +kernel)) ggX11_fingerprint_X11_parts
set_option maxRecDepth 20000 in
theorem ggX11_fingerprint_X11_mixed : GoodIn wsX11_fingerprint wsX11_mixed := goodIn_r _ [10, 11] (by decide +kernel) (by decide +kernel)
set_option maxRecDepth 20000 in
theorem gX11_fingerprint_X11_mixed : GoodIn wsX11_fingerprint (va_wsS RX11 182 yX11_mixed wsX11_mixed) := goodIn_app (goodIn_of _ (by decide +kernel)) ggX11_fingerprint_X11_mixed
set_option maxRecDepth 20000 in
theorem ggX11_fingerprint_X11_part : GoodIn wsX11_fingerprint wsX11_part := goodIn_r _ [15, 2, 16, 17, 18, 19, 20, 21, 22, 23, 24, 25, 26, 27, 64, 65, 66, 67, 68, 69, 70, 71, 72] (by decide +kernel) (by decide +kernel)
set_option maxRecDepth 20000 in
theorem gX11_fingerprint_X11_part : GoodIn wsX11_fingerprint (wsV RX11 186 RX11 yX11_part wsX11_part) := goodIn_app (goodIn_of _ (by decide +kernel)) ggX11_fingerprint_X11_part
set_option maxRecDepth 20000 in
theorem ggX11_fingerprint_X11_hits : GoodIn wsX11_fingerprint wsX11_hits := goodIn_r _ [31, 32, 64, 65, 66, 67, 73, 74, 75, 76, 77, 78, 79, 80, 81, 82, 83] (by decide +kernel) (by decide +kernel)
set_option maxRecDepth 20000 in
theorem gX11_fingerprint_X11_hits : GoodIn wsX11_fingerprint (wsV RX11 189 RX11 yX11_hits wsX11_hits) := goodIn_app (goodIn_of _ (by decide +kernel)) ggX11_fingerprint_X11_hits
set_option maxRecDepth 20000 in
theorem ggX11_fingerprint_X11_rays : GoodIn wsX11_fingerprint wsX11_rays := goodIn_r _ [36, 32, 64, 65, 66, 67, 73, 74, 75, 76, 77, 78] (by decide +kernel) (by decide +kernel)
set_option maxRecDepth 20000 in
theorem gX11_fingerprint_X11_rays : GoodIn wsX11_fingerprint (wsV RX11 192 RX11 yX11_rays wsX11_rays) := goodIn_app (goodIn_of _ (by decide +kernel)) ggX11_fingerprint_X11_rays
set_option maxRecDepth 20000 in
theorem ggX11_fingerprint_X11_coverage : GoodIn wsX11_fingerprint wsX11_coverage := goodIn_r _ [40, 32, 64, 65, 66, 67, 73, 74, 75, 76, 77, 78, 84, 85] (by decide +kernel) (by decide +kernel)
set_option maxRecDepth 20000 in
theorem gX11_fingerprint_X11_coverage : GoodIn wsX11_fingerprint (wsV RX11 195 RX11 yX11_coverage wsX11_coverage) := goodIn_app (goodIn_of _ (by decide +kernel)) ggX11_fingerprint_X11_coverage
set_option maxRecDepth 20000 in
theorem ggX11_fingerprint_X11_hit : GoodIn wsX11_fingerprint wsX11_hit := goodIn_r _ [44, 32, 45, 46, 47, 48, 49, 50, 51, 52, 64, 65, 66, 67, 73, 74, 75, 76, 77, 78, 79, 80, 81, 82, 83] (by decide +kernel) (by decide +kernel)
set_option maxRecDepth 20000 in
theorem gX11_fingerprint_X11_hit : GoodIn wsX11_fingerprint (wsV RX11 198 RX11 yX11_hit wsX11_hit) := goodIn_app (goodIn_of _ (by decide +kernel)) ggX11_fingerprint_X11_hit
set_option maxRecDepth 20000 in
theorem ggX11_fingerprint_X11_heard : GoodIn wsX11_fingerprint wsX11_heard := goodIn_r _ [56, 32, 57, 58, 59, 60, 61, 62, 63, 64, 65, 66, 67, 73, 74, 75, 76, 77, 78, 86] (by decide +kernel) (by decide +kernel)
set_option maxRecDepth 20000 in
theorem gX11_fingerprint_X11_heard : GoodIn wsX11_fingerprint (wsV RX11 201 RX11 yX11_heard wsX11_heard) := goodIn_app (goodIn_of _ (by decide +kernel)) ggX11_fingerprint_X11_heard
theorem dX11_fingerprint_0 : decode cX11_fingerprint 0 = .ok (.ldc2_w 178, 3) := by decide +kernel
theorem dX11_fingerprint_3 : decode cX11_fingerprint 3 = .ok (.aload_n 0, 1) := by decide +kernel
theorem dX11_fingerprint_4 : decode cX11_fingerprint 4 = .ok (.invokevirtual 180, 3) := by decide +kernel
theorem dX11_fingerprint_7 : decode cX11_fingerprint 7 = .ok (.i2l, 1) := by decide +kernel
theorem dX11_fingerprint_8 : decode cX11_fingerprint 8 = .ok (.invokestatic 182, 3) := by decide +kernel
theorem dX11_fingerprint_11 : decode cX11_fingerprint 11 = .ok (.lstore_n 1, 1) := by decide +kernel
theorem dX11_fingerprint_12 : decode cX11_fingerprint 12 = .ok (.iconst 0, 1) := by decide +kernel
theorem dX11_fingerprint_13 : decode cX11_fingerprint 13 = .ok (.istore_n 3, 1) := by decide +kernel
theorem dX11_fingerprint_14 : decode cX11_fingerprint 14 = .ok (.iload_n 3, 1) := by decide +kernel
theorem dX11_fingerprint_15 : decode cX11_fingerprint 15 = .ok (.aload_n 0, 1) := by decide +kernel
theorem dX11_fingerprint_16 : decode cX11_fingerprint 16 = .ok (.invokevirtual 180, 3) := by decide +kernel
theorem dX11_fingerprint_19 : decode cX11_fingerprint 19 = .ok (.if_icmp .ge 37, 3) := by decide +kernel
theorem dX11_fingerprint_22 : decode cX11_fingerprint 22 = .ok (.iconst 0, 1) := by decide +kernel
theorem dX11_fingerprint_23 : decode cX11_fingerprint 23 = .ok (.istore 4, 2) := by decide +kernel
theorem dX11_fingerprint_25 : decode cX11_fingerprint 25 = .ok (.iload 4, 2) := by decide +kernel
theorem dX11_fingerprint_27 : decode cX11_fingerprint 27 = .ok (.iconst 4, 1) := by decide +kernel
theorem dX11_fingerprint_28 : decode cX11_fingerprint 28 = .ok (.if_icmp .ge 22, 3) := by decide +kernel
theorem dX11_fingerprint_31 : decode cX11_fingerprint 31 = .ok (.lload_n 1, 1) := by decide +kernel
theorem dX11_fingerprint_32 : decode cX11_fingerprint 32 = .ok (.aload_n 0, 1) := by decide +kernel
theorem dX11_fingerprint_33 : decode cX11_fingerprint 33 = .ok (.iload_n 3, 1) := by decide +kernel
theorem dX11_fingerprint_34 : decode cX11_fingerprint 34 = .ok (.iload 4, 2) := by decide +kernel
theorem dX11_fingerprint_36 : decode cX11_fingerprint 36 = .ok (.invokevirtual 186, 3) := by decide +kernel
theorem dX11_fingerprint_39 : decode cX11_fingerprint 39 = .ok (.i2l, 1) := by decide +kernel
theorem dX11_fingerprint_40 : decode cX11_fingerprint 40 = .ok (.invokestatic 182, 3) := by decide +kernel
theorem dX11_fingerprint_43 : decode cX11_fingerprint 43 = .ok (.lstore_n 1, 1) := by decide +kernel
theorem dX11_fingerprint_44 : decode cX11_fingerprint 44 = .ok (.iinc 4 1, 3) := by decide +kernel
theorem dX11_fingerprint_47 : decode cX11_fingerprint 47 = .ok (.goto (-22), 3) := by decide +kernel
theorem dX11_fingerprint_50 : decode cX11_fingerprint 50 = .ok (.iinc 3 1, 3) := by decide +kernel
theorem dX11_fingerprint_53 : decode cX11_fingerprint 53 = .ok (.goto (-39), 3) := by decide +kernel
theorem dX11_fingerprint_56 : decode cX11_fingerprint 56 = .ok (.lload_n 1, 1) := by decide +kernel
theorem dX11_fingerprint_57 : decode cX11_fingerprint 57 = .ok (.aload_n 0, 1) := by decide +kernel
theorem dX11_fingerprint_58 : decode cX11_fingerprint 58 = .ok (.getfield 10, 3) := by decide +kernel
theorem dX11_fingerprint_61 : decode cX11_fingerprint 61 = .ok (.getfield 73, 3) := by decide +kernel
theorem dX11_fingerprint_64 : decode cX11_fingerprint 64 = .ok (.i2l, 1) := by decide +kernel
theorem dX11_fingerprint_65 : decode cX11_fingerprint 65 = .ok (.invokestatic 182, 3) := by decide +kernel
theorem dX11_fingerprint_68 : decode cX11_fingerprint 68 = .ok (.lstore_n 1, 1) := by decide +kernel
theorem dX11_fingerprint_69 : decode cX11_fingerprint 69 = .ok (.lload_n 1, 1) := by decide +kernel
theorem dX11_fingerprint_70 : decode cX11_fingerprint 70 = .ok (.aload_n 0, 1) := by decide +kernel
theorem dX11_fingerprint_71 : decode cX11_fingerprint 71 = .ok (.getfield 10, 3) := by decide +kernel
theorem dX11_fingerprint_74 : decode cX11_fingerprint 74 = .ok (.getfield 77, 3) := by decide +kernel
theorem dX11_fingerprint_77 : decode cX11_fingerprint 77 = .ok (.i2l, 1) := by decide +kernel
theorem dX11_fingerprint_78 : decode cX11_fingerprint 78 = .ok (.invokestatic 182, 3) := by decide +kernel
theorem dX11_fingerprint_81 : decode cX11_fingerprint 81 = .ok (.lstore_n 1, 1) := by decide +kernel
theorem dX11_fingerprint_82 : decode cX11_fingerprint 82 = .ok (.lload_n 1, 1) := by decide +kernel
theorem dX11_fingerprint_83 : decode cX11_fingerprint 83 = .ok (.aload_n 0, 1) := by decide +kernel
theorem dX11_fingerprint_84 : decode cX11_fingerprint 84 = .ok (.invokevirtual 189, 3) := by decide +kernel
theorem dX11_fingerprint_87 : decode cX11_fingerprint 87 = .ok (.i2l, 1) := by decide +kernel
theorem dX11_fingerprint_88 : decode cX11_fingerprint 88 = .ok (.invokestatic 182, 3) := by decide +kernel
theorem dX11_fingerprint_91 : decode cX11_fingerprint 91 = .ok (.lstore_n 1, 1) := by decide +kernel
theorem dX11_fingerprint_92 : decode cX11_fingerprint 92 = .ok (.lload_n 1, 1) := by decide +kernel
theorem dX11_fingerprint_93 : decode cX11_fingerprint 93 = .ok (.aload_n 0, 1) := by decide +kernel
theorem dX11_fingerprint_94 : decode cX11_fingerprint 94 = .ok (.invokevirtual 192, 3) := by decide +kernel
theorem dX11_fingerprint_97 : decode cX11_fingerprint 97 = .ok (.i2l, 1) := by decide +kernel
theorem dX11_fingerprint_98 : decode cX11_fingerprint 98 = .ok (.invokestatic 182, 3) := by decide +kernel
theorem dX11_fingerprint_101 : decode cX11_fingerprint 101 = .ok (.lstore_n 1, 1) := by decide +kernel
theorem dX11_fingerprint_102 : decode cX11_fingerprint 102 = .ok (.lload_n 1, 1) := by decide +kernel
theorem dX11_fingerprint_103 : decode cX11_fingerprint 103 = .ok (.aload_n 0, 1) := by decide +kernel
theorem dX11_fingerprint_104 : decode cX11_fingerprint 104 = .ok (.invokevirtual 195, 3) := by decide +kernel
theorem dX11_fingerprint_107 : decode cX11_fingerprint 107 = .ok (.i2l, 1) := by decide +kernel
theorem dX11_fingerprint_108 : decode cX11_fingerprint 108 = .ok (.invokestatic 182, 3) := by decide +kernel
theorem dX11_fingerprint_111 : decode cX11_fingerprint 111 = .ok (.lstore_n 1, 1) := by decide +kernel
theorem dX11_fingerprint_112 : decode cX11_fingerprint 112 = .ok (.iconst 0, 1) := by decide +kernel
theorem dX11_fingerprint_113 : decode cX11_fingerprint 113 = .ok (.istore_n 3, 1) := by decide +kernel
theorem dX11_fingerprint_114 : decode cX11_fingerprint 114 = .ok (.iload_n 3, 1) := by decide +kernel
theorem dX11_fingerprint_115 : decode cX11_fingerprint 115 = .ok (.aload_n 0, 1) := by decide +kernel
theorem dX11_fingerprint_116 : decode cX11_fingerprint 116 = .ok (.invokevirtual 189, 3) := by decide +kernel
theorem dX11_fingerprint_119 : decode cX11_fingerprint 119 = .ok (.if_icmp .ge 36, 3) := by decide +kernel
theorem dX11_fingerprint_122 : decode cX11_fingerprint 122 = .ok (.iconst 0, 1) := by decide +kernel
theorem dX11_fingerprint_123 : decode cX11_fingerprint 123 = .ok (.istore 4, 2) := by decide +kernel
theorem dX11_fingerprint_125 : decode cX11_fingerprint 125 = .ok (.iload 4, 2) := by decide +kernel
theorem dX11_fingerprint_127 : decode cX11_fingerprint 127 = .ok (.iconst 5, 1) := by decide +kernel
theorem dX11_fingerprint_128 : decode cX11_fingerprint 128 = .ok (.if_icmp .ge 21, 3) := by decide +kernel
theorem dX11_fingerprint_131 : decode cX11_fingerprint 131 = .ok (.lload_n 1, 1) := by decide +kernel
theorem dX11_fingerprint_132 : decode cX11_fingerprint 132 = .ok (.aload_n 0, 1) := by decide +kernel
theorem dX11_fingerprint_133 : decode cX11_fingerprint 133 = .ok (.iload_n 3, 1) := by decide +kernel
theorem dX11_fingerprint_134 : decode cX11_fingerprint 134 = .ok (.iload 4, 2) := by decide +kernel
theorem dX11_fingerprint_136 : decode cX11_fingerprint 136 = .ok (.invokevirtual 198, 3) := by decide +kernel
theorem dX11_fingerprint_139 : decode cX11_fingerprint 139 = .ok (.invokestatic 182, 3) := by decide +kernel
theorem dX11_fingerprint_142 : decode cX11_fingerprint 142 = .ok (.lstore_n 1, 1) := by decide +kernel
theorem dX11_fingerprint_143 : decode cX11_fingerprint 143 = .ok (.iinc 4 1, 3) := by decide +kernel
theorem dX11_fingerprint_146 : decode cX11_fingerprint 146 = .ok (.goto (-21), 3) := by decide +kernel
theorem dX11_fingerprint_149 : decode cX11_fingerprint 149 = .ok (.iinc 3 1, 3) := by decide +kernel
theorem dX11_fingerprint_152 : decode cX11_fingerprint 152 = .ok (.goto (-38), 3) := by decide +kernel
theorem dX11_fingerprint_155 : decode cX11_fingerprint 155 = .ok (.iconst 0, 1) := by decide +kernel
theorem dX11_fingerprint_156 : decode cX11_fingerprint 156 = .ok (.istore_n 3, 1) := by decide +kernel
theorem dX11_fingerprint_157 : decode cX11_fingerprint 157 = .ok (.iload_n 3, 1) := by decide +kernel
theorem dX11_fingerprint_158 : decode cX11_fingerprint 158 = .ok (.bipush 12, 2) := by decide +kernel
theorem dX11_fingerprint_160 : decode cX11_fingerprint 160 = .ok (.if_icmp .ge 36, 3) := by decide +kernel
theorem dX11_fingerprint_163 : decode cX11_fingerprint 163 = .ok (.iconst 0, 1) := by decide +kernel
theorem dX11_fingerprint_164 : decode cX11_fingerprint 164 = .ok (.istore 4, 2) := by decide +kernel
theorem dX11_fingerprint_166 : decode cX11_fingerprint 166 = .ok (.iload 4, 2) := by decide +kernel
theorem dX11_fingerprint_168 : decode cX11_fingerprint 168 = .ok (.iconst 4, 1) := by decide +kernel
theorem dX11_fingerprint_169 : decode cX11_fingerprint 169 = .ok (.if_icmp .ge 21, 3) := by decide +kernel
theorem dX11_fingerprint_172 : decode cX11_fingerprint 172 = .ok (.lload_n 1, 1) := by decide +kernel
theorem dX11_fingerprint_173 : decode cX11_fingerprint 173 = .ok (.aload_n 0, 1) := by decide +kernel
theorem dX11_fingerprint_174 : decode cX11_fingerprint 174 = .ok (.iload_n 3, 1) := by decide +kernel
theorem dX11_fingerprint_175 : decode cX11_fingerprint 175 = .ok (.iload 4, 2) := by decide +kernel
theorem dX11_fingerprint_177 : decode cX11_fingerprint 177 = .ok (.invokevirtual 201, 3) := by decide +kernel
theorem dX11_fingerprint_180 : decode cX11_fingerprint 180 = .ok (.invokestatic 182, 3) := by decide +kernel
theorem dX11_fingerprint_183 : decode cX11_fingerprint 183 = .ok (.lstore_n 1, 1) := by decide +kernel
theorem dX11_fingerprint_184 : decode cX11_fingerprint 184 = .ok (.iinc 4 1, 3) := by decide +kernel
theorem dX11_fingerprint_187 : decode cX11_fingerprint 187 = .ok (.goto (-21), 3) := by decide +kernel
theorem dX11_fingerprint_190 : decode cX11_fingerprint 190 = .ok (.iinc 3 1, 3) := by decide +kernel
theorem dX11_fingerprint_193 : decode cX11_fingerprint 193 = .ok (.goto (-36), 3) := by decide +kernel
theorem dX11_fingerprint_196 : decode cX11_fingerprint 196 = .ok (.lload_n 1, 1) := by decide +kernel
theorem dX11_fingerprint_197 : decode cX11_fingerprint 197 = .ok (.lreturn, 1) := by decide +kernel
theorem dX11_mixed_0 : decode cX11_mixed 0 = .ok (.ldc2_w 204, 3) := by decide +kernel
theorem dX11_mixed_3 : decode cX11_mixed 3 = .ok (.lload_n 0, 1) := by decide +kernel
theorem dX11_mixed_4 : decode cX11_mixed 4 = .ok (.lmul, 1) := by decide +kernel
theorem dX11_mixed_5 : decode cX11_mixed 5 = .ok (.lload_n 2, 1) := by decide +kernel
theorem dX11_mixed_6 : decode cX11_mixed 6 = .ok (.ladd, 1) := by decide +kernel
theorem dX11_mixed_7 : decode cX11_mixed 7 = .ok (.lreturn, 1) := by decide +kernel
theorem dX12_init_0 : decode cX12_init 0 = .ok (.aload_n 0, 1) := by decide +kernel
theorem dX12_init_1 : decode cX12_init 1 = .ok (.invokespecial 1, 3) := by decide +kernel
theorem dX12_init_4 : decode cX12_init 4 = .ok (.aload_n 0, 1) := by decide +kernel
theorem dX12_init_5 : decode cX12_init 5 = .ok (.bipush 60, 2) := by decide +kernel
theorem dX12_init_7 : decode cX12_init 7 = .ok (.newarray .int, 2) := by decide +kernel
theorem dX12_init_9 : decode cX12_init 9 = .ok (.putfield 7, 3) := by decide +kernel
theorem dX12_init_12 : decode cX12_init 12 = .ok (.aload_n 0, 1) := by decide +kernel
theorem dX12_init_13 : decode cX12_init 13 = .ok (.sipush 300, 3) := by decide +kernel
theorem dX12_init_16 : decode cX12_init 16 = .ok (.newarray .int, 2) := by decide +kernel
theorem dX12_init_18 : decode cX12_init 18 = .ok (.putfield 13, 3) := by decide +kernel
theorem dX12_init_21 : decode cX12_init 21 = .ok (.aload_n 0, 1) := by decide +kernel
theorem dX12_init_22 : decode cX12_init 22 = .ok (.bipush 60, 2) := by decide +kernel
theorem dX12_init_24 : decode cX12_init 24 = .ok (.newarray .int, 2) := by decide +kernel
theorem dX12_init_26 : decode cX12_init 26 = .ok (.putfield 16, 3) := by decide +kernel
theorem dX12_init_29 : decode cX12_init 29 = .ok (.aload_n 0, 1) := by decide +kernel
theorem dX12_init_30 : decode cX12_init 30 = .ok (.bipush 12, 2) := by decide +kernel
theorem dX12_init_32 : decode cX12_init 32 = .ok (.newarray .int, 2) := by decide +kernel
theorem dX12_init_34 : decode cX12_init 34 = .ok (.putfield 19, 3) := by decide +kernel
theorem dX12_init_37 : decode cX12_init 37 = .ok (.aload_n 0, 1) := by decide +kernel
theorem dX12_init_38 : decode cX12_init 38 = .ok (.bipush 36, 2) := by decide +kernel
theorem dX12_init_40 : decode cX12_init 40 = .ok (.newarray .int, 2) := by decide +kernel
theorem dX12_init_42 : decode cX12_init 42 = .ok (.putfield 22, 3) := by decide +kernel
theorem dX12_init_45 : decode cX12_init 45 = .ok (.aload_n 0, 1) := by decide +kernel
theorem dX12_init_46 : decode cX12_init 46 = .ok (.bipush 100, 2) := by decide +kernel
theorem dX12_init_48 : decode cX12_init 48 = .ok (.newarray .int, 2) := by decide +kernel
theorem dX12_init_50 : decode cX12_init 50 = .ok (.putfield 25, 3) := by decide +kernel
theorem dX12_init_53 : decode cX12_init 53 = .ok (.aload_n 0, 1) := by decide +kernel
theorem dX12_init_54 : decode cX12_init 54 = .ok (.bipush 100, 2) := by decide +kernel
theorem dX12_init_56 : decode cX12_init 56 = .ok (.newarray .long, 2) := by decide +kernel
theorem dX12_init_58 : decode cX12_init 58 = .ok (.putfield 28, 3) := by decide +kernel
theorem dX12_init_61 : decode cX12_init 61 = .ok (.aload_n 0, 1) := by decide +kernel
theorem dX12_init_62 : decode cX12_init 62 = .ok (.bipush 100, 2) := by decide +kernel
theorem dX12_init_64 : decode cX12_init 64 = .ok (.newarray .int, 2) := by decide +kernel
theorem dX12_init_66 : decode cX12_init 66 = .ok (.putfield 32, 3) := by decide +kernel
theorem dX12_init_69 : decode cX12_init 69 = .ok (.aload_n 0, 1) := by decide +kernel
theorem dX12_init_70 : decode cX12_init 70 = .ok (.bipush 100, 2) := by decide +kernel
theorem dX12_init_72 : decode cX12_init 72 = .ok (.newarray .int, 2) := by decide +kernel
theorem dX12_init_74 : decode cX12_init 74 = .ok (.putfield 35, 3) := by decide +kernel
theorem dX12_init_77 : decode cX12_init 77 = .ok (.aload_n 0, 1) := by decide +kernel
theorem dX12_init_78 : decode cX12_init 78 = .ok (.bipush 100, 2) := by decide +kernel
theorem dX12_init_80 : decode cX12_init 80 = .ok (.newarray .boolean, 2) := by decide +kernel
theorem dX12_init_82 : decode cX12_init 82 = .ok (.putfield 38, 3) := by decide +kernel
theorem dX12_init_85 : decode cX12_init 85 = .ok (.aload_n 0, 1) := by decide +kernel
theorem dX12_init_86 : decode cX12_init 86 = .ok (.sipush 3000, 3) := by decide +kernel
theorem dX12_init_89 : decode cX12_init 89 = .ok (.newarray .long, 2) := by decide +kernel
theorem dX12_init_91 : decode cX12_init 91 = .ok (.putfield 42, 3) := by decide +kernel
theorem dX12_init_94 : decode cX12_init 94 = .ok (.aload_n 0, 1) := by decide +kernel
theorem dX12_init_95 : decode cX12_init 95 = .ok (.sipush 600, 3) := by decide +kernel
theorem dX12_init_98 : decode cX12_init 98 = .ok (.newarray .boolean, 2) := by decide +kernel
theorem dX12_init_100 : decode cX12_init 100 = .ok (.putfield 45, 3) := by decide +kernel
theorem dX12_init_103 : decode cX12_init 103 = .ok (.aload_n 0, 1) := by decide +kernel
theorem dX12_init_104 : decode cX12_init 104 = .ok (.bipush 12, 2) := by decide +kernel
theorem dX12_init_106 : decode cX12_init 106 = .ok (.newarray .int, 2) := by decide +kernel
theorem dX12_init_108 : decode cX12_init 108 = .ok (.putfield 48, 3) := by decide +kernel
theorem dX12_init_111 : decode cX12_init 111 = .ok (.aload_n 0, 1) := by decide +kernel
theorem dX12_init_112 : decode cX12_init 112 = .ok (.bipush 12, 2) := by decide +kernel
theorem dX12_init_114 : decode cX12_init 114 = .ok (.newarray .long, 2) := by decide +kernel
theorem dX12_init_116 : decode cX12_init 116 = .ok (.putfield 51, 3) := by decide +kernel
theorem dX12_init_119 : decode cX12_init 119 = .ok (.aload_n 0, 1) := by decide +kernel
theorem dX12_init_120 : decode cX12_init 120 = .ok (.bipush 12, 2) := by decide +kernel
theorem dX12_init_122 : decode cX12_init 122 = .ok (.newarray .long, 2) := by decide +kernel
theorem dX12_init_124 : decode cX12_init 124 = .ok (.putfield 54, 3) := by decide +kernel
theorem dX12_init_127 : decode cX12_init 127 = .ok (.aload_n 0, 1) := by decide +kernel
theorem dX12_init_128 : decode cX12_init 128 = .ok (.bipush 12, 2) := by decide +kernel
theorem dX12_init_130 : decode cX12_init 130 = .ok (.newarray .int, 2) := by decide +kernel
theorem dX12_init_132 : decode cX12_init 132 = .ok (.putfield 57, 3) := by decide +kernel
theorem dX12_init_135 : decode cX12_init 135 = .ok (.aload_n 0, 1) := by decide +kernel
theorem dX12_init_136 : decode cX12_init 136 = .ok (.sipush 27720, 3) := by decide +kernel
theorem dX12_init_139 : decode cX12_init 139 = .ok (.newarray .boolean, 2) := by decide +kernel
theorem dX12_init_141 : decode cX12_init 141 = .ok (.putfield 60, 3) := by decide +kernel
theorem dX12_init_144 : decode cX12_init 144 = .ok (.aload_n 0, 1) := by decide +kernel
theorem dX12_init_145 : decode cX12_init 145 = .ok (.sipush 201, 3) := by decide +kernel
theorem dX12_init_148 : decode cX12_init 148 = .ok (.newarray .int, 2) := by decide +kernel
theorem dX12_init_150 : decode cX12_init 150 = .ok (.putfield 63, 3) := by decide +kernel
theorem dX12_init_153 : decode cX12_init 153 = .ok (.aload_n 0, 1) := by decide +kernel
theorem dX12_init_154 : decode cX12_init 154 = .ok (.getfield 7, 3) := by decide +kernel
theorem dX12_init_157 : decode cX12_init 157 = .ok (.iconst 1, 1) := by decide +kernel
theorem dX12_init_158 : decode cX12_init 158 = .ok (.bipush 10, 2) := by decide +kernel
theorem dX12_init_160 : decode cX12_init 160 = .ok (.iastore, 1) := by decide +kernel
theorem dX12_init_161 : decode cX12_init 161 = .ok (.aload_n 0, 1) := by decide +kernel
theorem dX12_init_162 : decode cX12_init 162 = .ok (.getfield 7, 3) := by decide +kernel
theorem dX12_init_165 : decode cX12_init 165 = .ok (.iconst 2, 1) := by decide +kernel
theorem dX12_init_166 : decode cX12_init 166 = .ok (.sipush 1000, 3) := by decide +kernel
theorem dX12_init_169 : decode cX12_init 169 = .ok (.iastore, 1) := by decide +kernel
theorem dX12_init_170 : decode cX12_init 170 = .ok (.return_, 1) := by decide +kernel
theorem dX12_in_0 : decode cX12_in 0 = .ok (.iload_n 0, 1) := by decide +kernel
theorem dX12_in_1 : decode cX12_in 1 = .ok (.iload_n 1, 1) := by decide +kernel
theorem dX12_in_2 : decode cX12_in 2 = .ok (.if_icmp .lt 12, 3) := by decide +kernel
theorem dX12_in_5 : decode cX12_in 5 = .ok (.iload_n 0, 1) := by decide +kernel
theorem dX12_in_6 : decode cX12_in 6 = .ok (.iload_n 2, 1) := by decide +kernel
theorem dX12_in_7 : decode cX12_in 7 = .ok (.if_icmp .gt 7, 3) := by decide +kernel
theorem dX12_in_10 : decode cX12_in 10 = .ok (.iconst 1, 1) := by decide +kernel
theorem dX12_in_11 : decode cX12_in 11 = .ok (.goto 4, 3) := by decide +kernel
theorem dX12_in_14 : decode cX12_in 14 = .ok (.iconst 0, 1) := by decide +kernel
theorem dX12_in_15 : decode cX12_in 15 = .ok (.ireturn, 1) := by decide +kernel
theorem dX12_act_0 : decode cX12_act 0 = .ok (.aload_n 0, 1) := by decide +kernel
theorem dX12_act_1 : decode cX12_act 1 = .ok (.getfield 66, 3) := by decide +kernel
theorem dX12_act_4 : decode cX12_act 4 = .ok (.iconst 5, 1) := by decide +kernel
theorem dX12_act_5 : decode cX12_act 5 = .ok (.if_icmp .ne 43, 3) := by decide +kernel
theorem dX12_act_8 : decode cX12_act 8 = .ok (.iconst 0, 1) := by decide +kernel
theorem dX12_act_9 : decode cX12_act 9 = .ok (.istore_n 1, 1) := by decide +kernel
theorem dX12_act_10 : decode cX12_act 10 = .ok (.iload_n 1, 1) := by decide +kernel
theorem dX12_act_11 : decode cX12_act 11 = .ok (.sipush 240, 3) := by decide +kernel
theorem dX12_act_14 : decode cX12_act 14 = .ok (.if_icmp .ge 24, 3) := by decide +kernel
theorem dX12_act_17 : decode cX12_act 17 = .ok (.aload_n 0, 1) := by decide +kernel
theorem dX12_act_18 : decode cX12_act 18 = .ok (.getfield 13, 3) := by decide +kernel
theorem dX12_act_21 : decode cX12_act 21 = .ok (.iload_n 1, 1) := by decide +kernel
theorem dX12_act_22 : decode cX12_act 22 = .ok (.aload_n 0, 1) := by decide +kernel
theorem dX12_act_23 : decode cX12_act 23 = .ok (.getfield 13, 3) := by decide +kernel
theorem dX12_act_26 : decode cX12_act 26 = .ok (.iload_n 1, 1) := by decide +kernel
theorem dX12_act_27 : decode cX12_act 27 = .ok (.bipush 60, 2) := by decide +kernel
theorem dX12_act_29 : decode cX12_act 29 = .ok (.iadd, 1) := by decide +kernel
theorem dX12_act_30 : decode cX12_act 30 = .ok (.iaload, 1) := by decide +kernel
theorem dX12_act_31 : decode cX12_act 31 = .ok (.iastore, 1) := by decide +kernel
theorem dX12_act_32 : decode cX12_act 32 = .ok (.iinc 1 1, 3) := by decide +kernel
theorem dX12_act_35 : decode cX12_act 35 = .ok (.goto (-25), 3) := by decide +kernel
theorem dX12_act_38 : decode cX12_act 38 = .ok (.aload_n 0, 1) := by decide +kernel
theorem dX12_act_39 : decode cX12_act 39 = .ok (.dup, 1) := by decide +kernel
theorem dX12_act_40 : decode cX12_act 40 = .ok (.getfield 66, 3) := by decide +kernel
theorem dX12_act_43 : decode cX12_act 43 = .ok (.iconst 1, 1) := by decide +kernel
theorem dX12_act_44 : decode cX12_act 44 = .ok (.isub, 1) := by decide +kernel
theorem dX12_act_45 : decode cX12_act 45 = .ok (.putfield 66, 3) := by decide +kernel
theorem dX12_act_48 : decode cX12_act 48 = .ok (.iconst 0, 1) := by decide +kernel
theorem dX12_act_49 : decode cX12_act 49 = .ok (.istore_n 1, 1) := by decide +kernel
theorem dX12_act_50 : decode cX12_act 50 = .ok (.iload_n 1, 1) := by decide +kernel
theorem dX12_act_51 : decode cX12_act 51 = .ok (.bipush 60, 2) := by decide +kernel
theorem dX12_act_53 : decode cX12_act 53 = .ok (.if_icmp .ge 29, 3) := by decide +kernel
theorem dX12_act_56 : decode cX12_act 56 = .ok (.aload_n 0, 1) := by decide +kernel
theorem dX12_act_57 : decode cX12_act 57 = .ok (.getfield 13, 3) := by decide +kernel
theorem dX12_act_60 : decode cX12_act 60 = .ok (.bipush 60, 2) := by decide +kernel
theorem dX12_act_62 : decode cX12_act 62 = .ok (.aload_n 0, 1) := by decide +kernel
theorem dX12_act_63 : decode cX12_act 63 = .ok (.getfield 66, 3) := by decide +kernel
theorem dX12_act_66 : decode cX12_act 66 = .ok (.imul, 1) := by decide +kernel
theorem dX12_act_67 : decode cX12_act 67 = .ok (.iload_n 1, 1) := by decide +kernel
theorem dX12_act_68 : decode cX12_act 68 = .ok (.iadd, 1) := by decide +kernel
theorem dX12_act_69 : decode cX12_act 69 = .ok (.aload_n 0, 1) := by decide +kernel
theorem dX12_act_70 : decode cX12_act 70 = .ok (.getfield 7, 3) := by decide +kernel
theorem dX12_act_73 : decode cX12_act 73 = .ok (.iload_n 1, 1) := by decide +kernel
theorem dX12_act_74 : decode cX12_act 74 = .ok (.iaload, 1) := by decide +kernel
theorem dX12_act_75 : decode cX12_act 75 = .ok (.iastore, 1) := by decide +kernel
theorem dX12_act_76 : decode cX12_act 76 = .ok (.iinc 1 1, 3) := by decide +kernel
theorem dX12_act_79 : decode cX12_act 79 = .ok (.goto (-29), 3) := by decide +kernel
theorem dX12_act_82 : decode cX12_act 82 = .ok (.aload_n 0, 1) := by decide +kernel
theorem dX12_act_83 : decode cX12_act 83 = .ok (.dup, 1) := by decide +kernel
theorem dX12_act_84 : decode cX12_act 84 = .ok (.getfield 66, 3) := by decide +kernel
theorem dX12_act_87 : decode cX12_act 87 = .ok (.iconst 1, 1) := by decide +kernel
theorem dX12_act_88 : decode cX12_act 88 = .ok (.iadd, 1) := by decide +kernel
theorem dX12_act_89 : decode cX12_act 89 = .ok (.putfield 66, 3) := by decide +kernel
theorem dX12_act_92 : decode cX12_act 92 = .ok (.return_, 1) := by decide +kernel
set_option maxRecDepth 20000 in
theorem ggX12_isNumber_X12_in : GoodIn wsX12_isNumber wsX12_in := goodIn_r _ [4] (by decide +kernel) (by decide +kernel)
set_option maxRecDepth 20000 in
theorem gX12_isNumber_X12_in : GoodIn wsX12_isNumber (va_wsS RX12 70 yX12_in wsX12_in) := goodIn_app (goodIn_of _ (by decide +kernel)) ggX12_isNumber_X12_in
theorem dX12_isNumber_0 : decode cX12_isNumber 0 = .ok (.iload_n 0, 1) := by decide +kernel
theorem dX12_isNumber_1 : decode cX12_isNumber 1 = .ok (.ifCond .ne 14, 3) := by decide +kernel
theorem dX12_isNumber_4 : decode cX12_isNumber 4 = .ok (.iload_n 1, 1) := by decide +kernel
theorem dX12_isNumber_5 : decode cX12_isNumber 5 = .ok (.iconst 0, 1) := by decide +kernel
theorem dX12_isNumber_6 : decode cX12_isNumber 6 = .ok (.sipush 1000, 3) := by decide +kernel
theorem dX12_isNumber_9 : decode cX12_isNumber 9 = .ok (.invokestatic 70, 3) := by decide +kernel
theorem dX12_isNumber_12 : decode cX12_isNumber 12 = .ok (.goto 35, 3) := by decide +kernel
theorem dX12_isNumber_15 : decode cX12_isNumber 15 = .ok (.iload_n 0, 1) := by decide +kernel
theorem dX12_isNumber_16 : decode cX12_isNumber 16 = .ok (.iconst 2, 1) := by decide +kernel
theorem dX12_isNumber_17 : decode cX12_isNumber 17 = .ok (.if_icmp .eq 8, 3) := by decide +kernel
theorem dX12_isNumber_20 : decode cX12_isNumber 20 = .ok (.iload_n 0, 1) := by decide +kernel
theorem dX12_isNumber_21 : decode cX12_isNumber 21 = .ok (.iconst 3, 1) := by decide +kernel
theorem dX12_isNumber_22 : decode cX12_isNumber 22 = .ok (.if_icmp .ne 16, 3) := by decide +kernel
theorem dX12_isNumber_25 : decode cX12_isNumber 25 = .ok (.iload_n 1, 1) := by decide +kernel
theorem dX12_isNumber_26 : decode cX12_isNumber 26 = .ok (.sipush (-9999), 3) := by decide +kernel
theorem dX12_isNumber_29 : decode cX12_isNumber 29 = .ok (.sipush 9999, 3) := by decide +kernel
theorem dX12_isNumber_32 : decode cX12_isNumber 32 = .ok (.invokestatic 70, 3) := by decide +kernel
theorem dX12_isNumber_35 : decode cX12_isNumber 35 = .ok (.goto 12, 3) := by decide +kernel
theorem dX12_isNumber_38 : decode cX12_isNumber 38 = .ok (.iload_n 1, 1) := by decide +kernel
theorem dX12_isNumber_39 : decode cX12_isNumber 39 = .ok (.ifCond .ne 7, 3) := by decide +kernel
theorem dX12_isNumber_42 : decode cX12_isNumber 42 = .ok (.iconst 1, 1) := by decide +kernel
theorem dX12_isNumber_43 : decode cX12_isNumber 43 = .ok (.goto 4, 3) := by decide +kernel
theorem dX12_isNumber_46 : decode cX12_isNumber 46 = .ok (.iconst 0, 1) := by decide +kernel
theorem dX12_isNumber_47 : decode cX12_isNumber 47 = .ok (.ireturn, 1) := by decide +kernel
theorem dX12_adds_0 : decode cX12_adds 0 = .ok (.iconst 4, 1) := by decide +kernel
theorem dX12_adds_1 : decode cX12_adds 1 = .ok (.iconst 4, 1) := by decide +kernel
theorem dX12_adds_2 : decode cX12_adds 2 = .ok (.aload_n 0, 1) := by decide +kernel
theorem dX12_adds_3 : decode cX12_adds 3 = .ok (.getfield 7, 3) := by decide +kernel
theorem dX12_adds_6 : decode cX12_adds 6 = .ok (.iconst 0, 1) := by decide +kernel
theorem dX12_adds_7 : decode cX12_adds 7 = .ok (.iaload, 1) := by decide +kernel
theorem dX12_adds_8 : decode cX12_adds 8 = .ok (.imul, 1) := by decide +kernel
theorem dX12_adds_9 : decode cX12_adds 9 = .ok (.iadd, 1) := by decide +kernel
theorem dX12_adds_10 : decode cX12_adds 10 = .ok (.istore 5, 2) := by decide +kernel
theorem dX12_adds_12 : decode cX12_adds 12 = .ok (.aload_n 0, 1) := by decide +kernel
theorem dX12_adds_13 : decode cX12_adds 13 = .ok (.getfield 7, 3) := by decide +kernel
theorem dX12_adds_16 : decode cX12_adds 16 = .ok (.iload 5, 2) := by decide +kernel
theorem dX12_adds_18 : decode cX12_adds 18 = .ok (.iload_n 1, 1) := by decide +kernel
theorem dX12_adds_19 : decode cX12_adds 19 = .ok (.iastore, 1) := by decide +kernel
theorem dX12_adds_20 : decode cX12_adds 20 = .ok (.aload_n 0, 1) := by decide +kernel
theorem dX12_adds_21 : decode cX12_adds 21 = .ok (.getfield 7, 3) := by decide +kernel
theorem dX12_adds_24 : decode cX12_adds 24 = .ok (.iload 5, 2) := by decide +kernel
theorem dX12_adds_26 : decode cX12_adds 26 = .ok (.iconst 1, 1) := by decide +kernel
theorem dX12_adds_27 : decode cX12_adds 27 = .ok (.iadd, 1) := by decide +kernel
theorem dX12_adds_28 : decode cX12_adds 28 = .ok (.iload_n 2, 1) := by decide +kernel
theorem dX12_adds_29 : decode cX12_adds 29 = .ok (.iastore, 1) := by decide +kernel
theorem dX12_adds_30 : decode cX12_adds 30 = .ok (.aload_n 0, 1) := by decide +kernel
theorem dX12_adds_31 : decode cX12_adds 31 = .ok (.getfield 7, 3) := by decide +kernel
theorem dX12_adds_34 : decode cX12_adds 34 = .ok (.iload 5, 2) := by decide +kernel
theorem dX12_adds_36 : decode cX12_adds 36 = .ok (.iconst 2, 1) := by decide +kernel
theorem dX12_adds_37 : decode cX12_adds 37 = .ok (.iadd, 1) := by decide +kernel
theorem dX12_adds_38 : decode cX12_adds 38 = .ok (.iload_n 3, 1) := by decide +kernel
theorem dX12_adds_39 : decode cX12_adds 39 = .ok (.iastore, 1) := by decide +kernel
theorem dX12_adds_40 : decode cX12_adds 40 = .ok (.aload_n 0, 1) := by decide +kernel
theorem dX12_adds_41 : decode cX12_adds 41 = .ok (.getfield 7, 3) := by decide +kernel
theorem dX12_adds_44 : decode cX12_adds 44 = .ok (.iload 5, 2) := by decide +kernel
theorem dX12_adds_46 : decode cX12_adds 46 = .ok (.iconst 3, 1) := by decide +kernel
theorem dX12_adds_47 : decode cX12_adds 47 = .ok (.iadd, 1) := by decide +kernel
theorem dX12_adds_48 : decode cX12_adds 48 = .ok (.iload 4, 2) := by decide +kernel
theorem dX12_adds_50 : decode cX12_adds 50 = .ok (.iastore, 1) := by decide +kernel
theorem dX12_adds_51 : decode cX12_adds 51 = .ok (.aload_n 0, 1) := by decide +kernel
theorem dX12_adds_52 : decode cX12_adds 52 = .ok (.getfield 7, 3) := by decide +kernel
theorem dX12_adds_55 : decode cX12_adds 55 = .ok (.iconst 0, 1) := by decide +kernel
theorem dX12_adds_56 : decode cX12_adds 56 = .ok (.dup2, 1) := by decide +kernel
theorem dX12_adds_57 : decode cX12_adds 57 = .ok (.iaload, 1) := by decide +kernel
theorem dX12_adds_58 : decode cX12_adds 58 = .ok (.iconst 1, 1) := by decide +kernel
theorem dX12_adds_59 : decode cX12_adds 59 = .ok (.iadd, 1) := by decide +kernel
theorem dX12_adds_60 : decode cX12_adds 60 = .ok (.iastore, 1) := by decide +kernel
theorem dX12_adds_61 : decode cX12_adds 61 = .ok (.return_, 1) := by decide +kernel
set_option maxRecDepth 20000 in
theorem ggX12_add_X12_in : GoodIn wsX12_add wsX12_in := goodIn_r _ [7] (by decide +kernel) (by decide +kernel)
set_option maxRecDepth 20000 in
theorem gX12_add_X12_in : GoodIn wsX12_add (va_wsS RX12 70 yX12_in wsX12_in) := goodIn_app (goodIn_of _ (by decide +kernel)) ggX12_add_X12_in
set_option maxRecDepth 20000 in
theorem ggX12_add_X12_isNumber : GoodIn wsX12_add wsX12_isNumber := goodIn_r _ [10, 4, 5, 6, 7] (by decide +kernel) (by decide +kernel)
set_option maxRecDepth 20000 in
theorem gX12_add_X12_isNumber : GoodIn wsX12_add (va_wsS RX12 74 yX12_isNumber wsX12_isNumber) := goodIn_app (goodIn_of _ (by decide +kernel)) ggX12_add_X12_isNumber
set_option maxRecDepth 20000 in
theorem ggX12_add_X12_act : GoodIn wsX12_add wsX12_act := goodIn_r _ [14, 15, 16, 2, 21, 22, 23, 24, 25, 26, 27, 28, 29, 30, 31, 32, 33, 34, 35, 36, 37, 38, 39, 40, 41, 42, 43, 44, 45, 46, 47] (by decide +kernel) (by decide +kernel)
set_option maxRecDepth 20000 in
theorem gX12_add_X12_act : GoodIn wsX12_add (wsV RX12 80 RX12 yX12_act wsX12_act) := goodIn_app (goodIn_of _ (by decide +kernel)) ggX12_add_X12_act
set_option maxRecDepth 20000 in
theorem ggX12_add_X12_adds : GoodIn wsX12_add wsX12_adds := goodIn_r _ [20, 2, 21, 22, 23, 24, 25, 26, 27, 28, 29, 30, 31, 32, 33, 34, 35, 36, 37, 38, 39, 40, 41, 42, 43, 44, 45, 46, 47] (by decide +kernel) (by decide +kernel)
set_option maxRecDepth 20000 in
theorem gX12_add_X12_adds : GoodIn wsX12_add (wsV RX12 83 RX12 yX12_adds wsX12_adds) := goodIn_app (goodIn_of _ (by decide +kernel)) ggX12_add_X12_adds
theorem dX12_add_0 : decode cX12_add 0 = .ok (.iload_n 1, 1) := by decide +kernel
theorem dX12_add_1 : decode cX12_add 1 = .ok (.iconst 0, 1) := by decide +kernel
theorem dX12_add_2 : decode cX12_add 2 = .ok (.iconst 4, 1) := by decide +kernel
theorem dX12_add_3 : decode cX12_add 3 = .ok (.invokestatic 70, 3) := by decide +kernel
theorem dX12_add_6 : decode cX12_add 6 = .ok (.ifCond .eq 34, 3) := by decide +kernel
theorem dX12_add_9 : decode cX12_add 9 = .ok (.iload_n 2, 1) := by decide +kernel
theorem dX12_add_10 : decode cX12_add 10 = .ok (.iconst 0, 1) := by decide +kernel
theorem dX12_add_11 : decode cX12_add 11 = .ok (.sipush 27719, 3) := by decide +kernel
theorem dX12_add_14 : decode cX12_add 14 = .ok (.invokestatic 70, 3) := by decide +kernel
theorem dX12_add_17 : decode cX12_add 17 = .ok (.ifCond .eq 23, 3) := by decide +kernel
theorem dX12_add_20 : decode cX12_add 20 = .ok (.iload_n 3, 1) := by decide +kernel
theorem dX12_add_21 : decode cX12_add 21 = .ok (.iconst 1, 1) := by decide +kernel
theorem dX12_add_22 : decode cX12_add 22 = .ok (.sipush 27720, 3) := by decide +kernel
theorem dX12_add_25 : decode cX12_add 25 = .ok (.invokestatic 70, 3) := by decide +kernel
theorem dX12_add_28 : decode cX12_add 28 = .ok (.ifCond .eq 12, 3) := by decide +kernel
theorem dX12_add_31 : decode cX12_add 31 = .ok (.iload_n 1, 1) := by decide +kernel
theorem dX12_add_32 : decode cX12_add 32 = .ok (.iload 4, 2) := by decide +kernel
theorem dX12_add_34 : decode cX12_add 34 = .ok (.invokestatic 74, 3) := by decide +kernel
theorem dX12_add_37 : decode cX12_add 37 = .ok (.ifCond .ne 6, 3) := by decide +kernel
theorem dX12_add_40 : decode cX12_add 40 = .ok (.ldc 78, 2) := by decide +kernel
theorem dX12_add_42 : decode cX12_add 42 = .ok (.ireturn, 1) := by decide +kernel
theorem dX12_add_43 : decode cX12_add 43 = .ok (.aload_n 0, 1) := by decide +kernel
theorem dX12_add_44 : decode cX12_add 44 = .ok (.getfield 7, 3) := by decide +kernel
theorem dX12_add_47 : decode cX12_add 47 = .ok (.iconst 0, 1) := by decide +kernel
theorem dX12_add_48 : decode cX12_add 48 = .ok (.iaload, 1) := by decide +kernel
theorem dX12_add_49 : decode cX12_add 49 = .ok (.bipush 12, 2) := by decide +kernel
theorem dX12_add_51 : decode cX12_add 51 = .ok (.if_icmp .ne 6, 3) := by decide +kernel
theorem dX12_add_54 : decode cX12_add 54 = .ok (.ldc 79, 2) := by decide +kernel
theorem dX12_add_56 : decode cX12_add 56 = .ok (.ireturn, 1) := by decide +kernel
theorem dX12_add_57 : decode cX12_add 57 = .ok (.aload_n 0, 1) := by decide +kernel
theorem dX12_add_58 : decode cX12_add 58 = .ok (.invokevirtual 80, 3) := by decide +kernel
theorem dX12_add_61 : decode cX12_add 61 = .ok (.aload_n 0, 1) := by decide +kernel
theorem dX12_add_62 : decode cX12_add 62 = .ok (.iload_n 1, 1) := by decide +kernel
theorem dX12_add_63 : decode cX12_add 63 = .ok (.iload_n 2, 1) := by decide +kernel
theorem dX12_add_64 : decode cX12_add 64 = .ok (.iload_n 3, 1) := by decide +kernel
theorem dX12_add_65 : decode cX12_add 65 = .ok (.iload 4, 2) := by decide +kernel
theorem dX12_add_67 : decode cX12_add 67 = .ok (.invokevirtual 83, 3) := by decide +kernel
theorem dX12_add_70 : decode cX12_add 70 = .ok (.aload_n 0, 1) := by decide +kernel
theorem dX12_add_71 : decode cX12_add 71 = .ok (.getfield 7, 3) := by decide +kernel
theorem dX12_add_74 : decode cX12_add 74 = .ok (.iconst 0, 1) := by decide +kernel
theorem dX12_add_75 : decode cX12_add 75 = .ok (.iaload, 1) := by decide +kernel
theorem dX12_add_76 : decode cX12_add 76 = .ok (.iconst 1, 1) := by decide +kernel
theorem dX12_add_77 : decode cX12_add 77 = .ok (.isub, 1) := by decide +kernel
theorem dX12_add_78 : decode cX12_add 78 = .ok (.ireturn, 1) := by decide +kernel
set_option maxRecDepth 20000 in
theorem ggX12_isPart_X12_in : GoodIn wsX12_isPart wsX12_in := goodIn_r _ [5] (by decide +kernel) (by decide +kernel)
set_option maxRecDepth 20000 in
theorem gX12_isPart_X12_in : GoodIn wsX12_isPart (va_wsS RX12 70 yX12_in wsX12_in) := goodIn_app (goodIn_of _ (by decide +kernel)) ggX12_isPart_X12_in
theorem dX12_isPart_0 : decode cX12_isPart 0 = .ok (.iload_n 1, 1) := by decide +kernel
theorem dX12_isPart_1 : decode cX12_isPart 1 = .ok (.iconst 0, 1) := by decide +kernel
theorem dX12_isPart_2 : decode cX12_isPart 2 = .ok (.aload_n 0, 1) := by decide +kernel
theorem dX12_isPart_3 : decode cX12_isPart 3 = .ok (.getfield 7, 3) := by decide +kernel
theorem dX12_isPart_6 : decode cX12_isPart 6 = .ok (.iconst 0, 1) := by decide +kernel
theorem dX12_isPart_7 : decode cX12_isPart 7 = .ok (.iaload, 1) := by decide +kernel
theorem dX12_isPart_8 : decode cX12_isPart 8 = .ok (.iconst 1, 1) := by decide +kernel
theorem dX12_isPart_9 : decode cX12_isPart 9 = .ok (.isub, 1) := by decide +kernel
theorem dX12_isPart_10 : decode cX12_isPart 10 = .ok (.invokestatic 70, 3) := by decide +kernel
theorem dX12_isPart_13 : decode cX12_isPart 13 = .ok (.ireturn, 1) := by decide +kernel
set_option maxRecDepth 20000 in
theorem ggX12_remove_X12_isPart : GoodIn wsX12_remove wsX12_isPart := goodIn_r _ [7, 2, 8, 9, 6, 10, 17, 18, 19, 20, 21, 22, 23, 24, 25, 26, 27, 28, 29, 30, 31, 32, 33, 34, 35, 36, 37, 38, 39, 40, 41, 42, 43] (by decide +kernel) (by decide +kernel)
set_option maxRecDepth 20000 in
theorem gX12_remove_X12_isPart : GoodIn wsX12_remove (wsV RX12 87 RX12 yX12_isPart wsX12_isPart) := goodIn_app (goodIn_of _ (by decide +kernel)) ggX12_remove_X12_isPart
set_option maxRecDepth 20000 in
theorem ggX12_remove_X12_act : GoodIn wsX12_remove wsX12_act := goodIn_r _ [14, 15, 16, 2, 17, 18, 19, 20, 21, 22, 23, 24, 25, 26, 27, 28, 29, 30, 31, 32, 33, 34, 35, 36, 37, 38, 39, 40, 41, 42, 43] (by decide +kernel) (by decide +kernel)
set_option maxRecDepth 20000 in
theorem gX12_remove_X12_act : GoodIn wsX12_remove (wsV RX12 80 RX12 yX12_act wsX12_act) := goodIn_app (goodIn_of _ (by decide +kernel)) ggX12_remove_X12_act
theorem dX12_remove_0 : decode cX12_remove 0 = .ok (.aload_n 0, 1) := by decide +kernel
theorem dX12_remove_1 : decode cX12_remove 1 = .ok (.iload_n 1, 1) := by decide +kernel
theorem dX12_remove_2 : decode cX12_remove 2 = .ok (.invokevirtual 87, 3) := by decide +kernel
theorem dX12_remove_5 : decode cX12_remove 5 = .ok (.ifCond .ne 6, 3) := by decide +kernel
theorem dX12_remove_8 : decode cX12_remove 8 = .ok (.ldc 78, 2) := by decide +kernel
theorem dX12_remove_10 : decode cX12_remove 10 = .ok (.ireturn, 1) := by decide +kernel
theorem dX12_remove_11 : decode cX12_remove 11 = .ok (.aload_n 0, 1) := by decide +kernel
theorem dX12_remove_12 : decode cX12_remove 12 = .ok (.invokevirtual 80, 3) := by decide +kernel
theorem dX12_remove_15 : decode cX12_remove 15 = .ok (.aload_n 0, 1) := by decide +kernel
theorem dX12_remove_16 : decode cX12_remove 16 = .ok (.getfield 7, 3) := by decide +kernel
theorem dX12_remove_19 : decode cX12_remove 19 = .ok (.iconst 0, 1) := by decide +kernel
theorem dX12_remove_20 : decode cX12_remove 20 = .ok (.dup2, 1) := by decide +kernel
theorem dX12_remove_21 : decode cX12_remove 21 = .ok (.iaload, 1) := by decide +kernel
theorem dX12_remove_22 : decode cX12_remove 22 = .ok (.iconst 1, 1) := by decide +kernel
theorem dX12_remove_23 : decode cX12_remove 23 = .ok (.isub, 1) := by decide +kernel
theorem dX12_remove_24 : decode cX12_remove 24 = .ok (.iastore, 1) := by decide +kernel
theorem dX12_remove_25 : decode cX12_remove 25 = .ok (.iconst 4, 1) := by decide +kernel
theorem dX12_remove_26 : decode cX12_remove 26 = .ok (.iconst 4, 1) := by decide +kernel
theorem dX12_remove_27 : decode cX12_remove 27 = .ok (.iload_n 1, 1) := by decide +kernel
theorem dX12_remove_28 : decode cX12_remove 28 = .ok (.imul, 1) := by decide +kernel
theorem dX12_remove_29 : decode cX12_remove 29 = .ok (.iadd, 1) := by decide +kernel
theorem dX12_remove_30 : decode cX12_remove 30 = .ok (.istore_n 2, 1) := by decide +kernel
theorem dX12_remove_31 : decode cX12_remove 31 = .ok (.iload_n 2, 1) := by decide +kernel
theorem dX12_remove_32 : decode cX12_remove 32 = .ok (.iconst 4, 1) := by decide +kernel
theorem dX12_remove_33 : decode cX12_remove 33 = .ok (.iconst 4, 1) := by decide +kernel
theorem dX12_remove_34 : decode cX12_remove 34 = .ok (.aload_n 0, 1) := by decide +kernel
theorem dX12_remove_35 : decode cX12_remove 35 = .ok (.getfield 7, 3) := by decide +kernel
theorem dX12_remove_38 : decode cX12_remove 38 = .ok (.iconst 0, 1) := by decide +kernel
theorem dX12_remove_39 : decode cX12_remove 39 = .ok (.iaload, 1) := by decide +kernel
theorem dX12_remove_40 : decode cX12_remove 40 = .ok (.imul, 1) := by decide +kernel
theorem dX12_remove_41 : decode cX12_remove 41 = .ok (.iadd, 1) := by decide +kernel
theorem dX12_remove_42 : decode cX12_remove 42 = .ok (.if_icmp .ge 23, 3) := by decide +kernel
theorem dX12_remove_45 : decode cX12_remove 45 = .ok (.aload_n 0, 1) := by decide +kernel
theorem dX12_remove_46 : decode cX12_remove 46 = .ok (.getfield 7, 3) := by decide +kernel
theorem dX12_remove_49 : decode cX12_remove 49 = .ok (.iload_n 2, 1) := by decide +kernel
theorem dX12_remove_50 : decode cX12_remove 50 = .ok (.aload_n 0, 1) := by decide +kernel
theorem dX12_remove_51 : decode cX12_remove 51 = .ok (.getfield 7, 3) := by decide +kernel
theorem dX12_remove_54 : decode cX12_remove 54 = .ok (.iload_n 2, 1) := by decide +kernel
theorem dX12_remove_55 : decode cX12_remove 55 = .ok (.iconst 4, 1) := by decide +kernel
theorem dX12_remove_56 : decode cX12_remove 56 = .ok (.iadd, 1) := by decide +kernel
theorem dX12_remove_57 : decode cX12_remove 57 = .ok (.iaload, 1) := by decide +kernel
theorem dX12_remove_58 : decode cX12_remove 58 = .ok (.iastore, 1) := by decide +kernel
theorem dX12_remove_59 : decode cX12_remove 59 = .ok (.iinc 2 1, 3) := by decide +kernel
theorem dX12_remove_62 : decode cX12_remove 62 = .ok (.goto (-31), 3) := by decide +kernel
theorem dX12_remove_65 : decode cX12_remove 65 = .ok (.aload_n 0, 1) := by decide +kernel
theorem dX12_remove_66 : decode cX12_remove 66 = .ok (.getfield 7, 3) := by decide +kernel
theorem dX12_remove_69 : decode cX12_remove 69 = .ok (.iconst 0, 1) := by decide +kernel
theorem dX12_remove_70 : decode cX12_remove 70 = .ok (.iaload, 1) := by decide +kernel
theorem dX12_remove_71 : decode cX12_remove 71 = .ok (.ireturn, 1) := by decide +kernel
set_option maxRecDepth 20000 in
theorem ggX12_part_X12_isPart : GoodIn wsX12_part wsX12_isPart := goodIn_r _ [7, 1, 8, 9, 6, 10, 11, 12, 13, 14, 15, 16, 17, 18, 19, 20, 21, 22, 23, 24, 25, 26, 27, 28, 29, 30, 31, 32, 33, 34, 35, 36, 37] (by decide +kernel) (by decide +kernel)
set_option maxRecDepth 20000 in
theorem gX12_part_X12_isPart : GoodIn wsX12_part (wsV RX12 87 RX12 yX12_isPart wsX12_isPart) := goodIn_app (goodIn_of _ (by decide +kernel)) ggX12_part_X12_isPart
set_option maxRecDepth 20000 in
theorem ggX12_part_X12_in : GoodIn wsX12_part wsX12_in := goodIn_r _ [10] (by decide +kernel) (by decide +kernel)
set_option maxRecDepth 20000 in
theorem gX12_part_X12_in : GoodIn wsX12_part (va_wsS RX12 70 yX12_in wsX12_in) := goodIn_app (goodIn_of _ (by decide +kernel)) ggX12_part_X12_in
theorem dX12_part_0 : decode cX12_part 0 = .ok (.aload_n 0, 1) := by decide +kernel
theorem dX12_part_1 : decode cX12_part 1 = .ok (.iload_n 1, 1) := by decide +kernel
theorem dX12_part_2 : decode cX12_part 2 = .ok (.invokevirtual 87, 3) := by decide +kernel
theorem dX12_part_5 : decode cX12_part 5 = .ok (.ifCond .eq 27, 3) := by decide +kernel
theorem dX12_part_8 : decode cX12_part 8 = .ok (.iload_n 2, 1) := by decide +kernel
theorem dX12_part_9 : decode cX12_part 9 = .ok (.iconst 0, 1) := by decide +kernel
theorem dX12_part_10 : decode cX12_part 10 = .ok (.iconst 3, 1) := by decide +kernel
theorem dX12_part_11 : decode cX12_part 11 = .ok (.invokestatic 70, 3) := by decide +kernel
theorem dX12_part_14 : decode cX12_part 14 = .ok (.ifCond .eq 18, 3) := by decide +kernel
theorem dX12_part_17 : decode cX12_part 17 = .ok (.aload_n 0, 1) := by decide +kernel
theorem dX12_part_18 : decode cX12_part 18 = .ok (.getfield 7, 3) := by decide +kernel
theorem dX12_part_21 : decode cX12_part 21 = .ok (.iconst 4, 1) := by decide +kernel
theorem dX12_part_22 : decode cX12_part 22 = .ok (.iconst 4, 1) := by decide +kernel
theorem dX12_part_23 : decode cX12_part 23 = .ok (.iload_n 1, 1) := by decide +kernel
theorem dX12_part_24 : decode cX12_part 24 = .ok (.imul, 1) := by decide +kernel
theorem dX12_part_25 : decode cX12_part 25 = .ok (.iadd, 1) := by decide +kernel
theorem dX12_part_26 : decode cX12_part 26 = .ok (.iload_n 2, 1) := by decide +kernel
theorem dX12_part_27 : decode cX12_part 27 = .ok (.iadd, 1) := by decide +kernel
theorem dX12_part_28 : decode cX12_part 28 = .ok (.iaload, 1) := by decide +kernel
theorem dX12_part_29 : decode cX12_part 29 = .ok (.goto 5, 3) := by decide +kernel
theorem dX12_part_32 : decode cX12_part 32 = .ok (.ldc 78, 2) := by decide +kernel
theorem dX12_part_34 : decode cX12_part 34 = .ok (.ireturn, 1) := by decide +kernel
theorem dX12_parts_0 : decode cX12_parts 0 = .ok (.aload_n 0, 1) := by decide +kernel
theorem dX12_parts_1 : decode cX12_parts 1 = .ok (.getfield 7, 3) := by decide +kernel
theorem dX12_parts_4 : decode cX12_parts 4 = .ok (.iconst 0, 1) := by decide +kernel
theorem dX12_parts_5 : decode cX12_parts 5 = .ok (.iaload, 1) := by decide +kernel
theorem dX12_parts_6 : decode cX12_parts 6 = .ok (.ireturn, 1) := by decide +kernel
set_option maxRecDepth 20000 in
theorem ggX12_sets_X12_act : GoodIn wsX12_sets wsX12_act := goodIn_r _ [6, 7, 8, 1, 9, 10, 11, 12, 13, 14, 15, 16, 17, 18, 19, 20, 21, 22, 23, 24, 25, 26, 27, 28, 29, 30, 31, 32, 33, 34, 35] (by decide +kernel) (by decide +kernel)
set_option maxRecDepth 20000 in
theorem gX12_sets_X12_act : GoodIn wsX12_sets (wsV RX12 80 RX12 yX12_act wsX12_act) := goodIn_app (goodIn_of _ (by decide +kernel)) ggX12_sets_X12_act
theorem dX12_sets_0 : decode cX12_sets 0 = .ok (.aload_n 0, 1) := by decide +kernel
theorem dX12_sets_1 : decode cX12_sets 1 = .ok (.invokevirtual 80, 3) := by decide +kernel
theorem dX12_sets_4 : decode cX12_sets 4 = .ok (.aload_n 0, 1) := by decide +kernel
theorem dX12_sets_5 : decode cX12_sets 5 = .ok (.getfield 7, 3) := by decide +kernel
theorem dX12_sets_8 : decode cX12_sets 8 = .ok (.iload_n 1, 1) := by decide +kernel
theorem dX12_sets_9 : decode cX12_sets 9 = .ok (.iaload, 1) := by decide +kernel
theorem dX12_sets_10 : decode cX12_sets 10 = .ok (.istore_n 3, 1) := by decide +kernel
theorem dX12_sets_11 : decode cX12_sets 11 = .ok (.aload_n 0, 1) := by decide +kernel
theorem dX12_sets_12 : decode cX12_sets 12 = .ok (.getfield 7, 3) := by decide +kernel
theorem dX12_sets_15 : decode cX12_sets 15 = .ok (.iload_n 1, 1) := by decide +kernel
theorem dX12_sets_16 : decode cX12_sets 16 = .ok (.iload_n 2, 1) := by decide +kernel
theorem dX12_sets_17 : decode cX12_sets 17 = .ok (.iastore, 1) := by decide +kernel
theorem dX12_sets_18 : decode cX12_sets 18 = .ok (.iload_n 3, 1) := by decide +kernel
theorem dX12_sets_19 : decode cX12_sets 19 = .ok (.ireturn, 1) := by decide +kernel
set_option maxRecDepth 20000 in
theorem ggX12_setLoss_X12_in : GoodIn wsX12_setLoss wsX12_in := goodIn_r _ [5] (by decide +kernel) (by decide +kernel)
set_option maxRecDepth 20000 in
theorem gX12_setLoss_X12_in : GoodIn wsX12_setLoss (va_wsS RX12 70 yX12_in wsX12_in) := goodIn_app (goodIn_of _ (by decide +kernel)) ggX12_setLoss_X12_in
set_option maxRecDepth 20000 in
theorem ggX12_setLoss_X12_sets : GoodIn wsX12_setLoss wsX12_sets := goodIn_r _ [9, 10, 11, 12, 13, 4, 14, 15, 16, 17, 18, 19, 20, 21, 22, 23, 24, 25, 26, 27, 28, 29, 30, 31, 32, 33, 34, 35, 36, 37, 38, 39, 40, 41, 42, 43] (by decide +kernel) (by decide +kernel)
set_option maxRecDepth 20000 in
theorem gX12_setLoss_X12_sets : GoodIn wsX12_setLoss (wsV RX12 91 RX12 yX12_sets wsX12_sets) := goodIn_app (goodIn_of _ (by decide +kernel)) ggX12_setLoss_X12_sets
theorem dX12_setLoss_0 : decode cX12_setLoss 0 = .ok (.iload_n 1, 1) := by decide +kernel
theorem dX12_setLoss_1 : decode cX12_setLoss 1 = .ok (.iconst 0, 1) := by decide +kernel
theorem dX12_setLoss_2 : decode cX12_setLoss 2 = .ok (.sipush 999, 3) := by decide +kernel
theorem dX12_setLoss_5 : decode cX12_setLoss 5 = .ok (.invokestatic 70, 3) := by decide +kernel
theorem dX12_setLoss_8 : decode cX12_setLoss 8 = .ok (.ifCond .eq 12, 3) := by decide +kernel
theorem dX12_setLoss_11 : decode cX12_setLoss 11 = .ok (.aload_n 0, 1) := by decide +kernel
theorem dX12_setLoss_12 : decode cX12_setLoss 12 = .ok (.iconst 1, 1) := by decide +kernel
theorem dX12_setLoss_13 : decode cX12_setLoss 13 = .ok (.iload_n 1, 1) := by decide +kernel
theorem dX12_setLoss_14 : decode cX12_setLoss 14 = .ok (.invokevirtual 91, 3) := by decide +kernel
theorem dX12_setLoss_17 : decode cX12_setLoss 17 = .ok (.goto 5, 3) := by decide +kernel
theorem dX12_setLoss_20 : decode cX12_setLoss 20 = .ok (.ldc 78, 2) := by decide +kernel
theorem dX12_setLoss_22 : decode cX12_setLoss 22 = .ok (.ireturn, 1) := by decide +kernel
set_option maxRecDepth 20000 in
theorem ggX12_setThreshold_X12_in : GoodIn wsX12_setThreshold wsX12_in := goodIn_r _ [6] (by decide +kernel) (by decide +kernel)
set_option maxRecDepth 20000 in
theorem gX12_setThreshold_X12_in : GoodIn wsX12_setThreshold (va_wsS RX12 70 yX12_in wsX12_in) := goodIn_app (goodIn_of _ (by decide +kernel)) ggX12_setThreshold_X12_in
set_option maxRecDepth 20000 in
theorem ggX12_setThreshold_X12_sets : GoodIn wsX12_setThreshold wsX12_sets := goodIn_r _ [10, 11, 12, 13, 14, 5, 15, 16, 17, 18, 19, 20, 21, 22, 23, 24, 25, 26, 27, 28, 29, 30, 31, 32, 33, 34, 35, 36, 37, 38, 39, 40, 41, 42, 43, 44] (by decide +kernel) (by decide +kernel)
set_option maxRecDepth 20000 in
theorem gX12_setThreshold_X12_sets : GoodIn wsX12_setThreshold (wsV RX12 91 RX12 yX12_sets wsX12_sets) := goodIn_app (goodIn_of _ (by decide +kernel)) ggX12_setThreshold_X12_sets
theorem dX12_setThreshold_0 : decode cX12_setThreshold 0 = .ok (.iload_n 1, 1) := by decide +kernel
theorem dX12_setThreshold_1 : decode cX12_setThreshold 1 = .ok (.iconst 1, 1) := by decide +kernel
theorem dX12_setThreshold_2 : decode cX12_setThreshold 2 = .ok (.ldc 95, 2) := by decide +kernel
theorem dX12_setThreshold_4 : decode cX12_setThreshold 4 = .ok (.invokestatic 70, 3) := by decide +kernel
theorem dX12_setThreshold_7 : decode cX12_setThreshold 7 = .ok (.ifCond .eq 12, 3) := by decide +kernel
theorem dX12_setThreshold_10 : decode cX12_setThreshold 10 = .ok (.aload_n 0, 1) := by decide +kernel
theorem dX12_setThreshold_11 : decode cX12_setThreshold 11 = .ok (.iconst 2, 1) := by decide +kernel
theorem dX12_setThreshold_12 : decode cX12_setThreshold 12 = .ok (.iload_n 1, 1) := by decide +kernel
theorem dX12_setThreshold_13 : decode cX12_setThreshold 13 = .ok (.invokevirtual 91, 3) := by decide +kernel
theorem dX12_setThreshold_16 : decode cX12_setThreshold 16 = .ok (.goto 5, 3) := by decide +kernel
theorem dX12_setThreshold_19 : decode cX12_setThreshold 19 = .ok (.ldc 78, 2) := by decide +kernel
theorem dX12_setThreshold_21 : decode cX12_setThreshold 21 = .ok (.ireturn, 1) := by decide +kernel
set_option maxRecDepth 20000 in
theorem ggX12_type_X12_in : GoodIn wsX12_type wsX12_in := goodIn_r _ [8] (by decide +kernel) (by decide +kernel)
set_option maxRecDepth 20000 in
theorem gX12_type_X12_in : GoodIn wsX12_type (va_wsS RX12 70 yX12_in wsX12_in) := goodIn_app (goodIn_of _ (by decide +kernel)) ggX12_type_X12_in
theorem dX12_type_0 : decode cX12_type 0 = .ok (.iload_n 1, 1) := by decide +kernel
theorem dX12_type_1 : decode cX12_type 1 = .ok (.bipush 32, 2) := by decide +kernel
theorem dX12_type_3 : decode cX12_type 3 = .ok (.bipush 126, 2) := by decide +kernel
theorem dX12_type_5 : decode cX12_type 5 = .ok (.invokestatic 70, 3) := by decide +kernel
theorem dX12_type_8 : decode cX12_type 8 = .ok (.ifCond .ne 6, 3) := by decide +kernel
theorem dX12_type_11 : decode cX12_type 11 = .ok (.ldc 78, 2) := by decide +kernel
theorem dX12_type_13 : decode cX12_type 13 = .ok (.ireturn, 1) := by decide +kernel
theorem dX12_type_14 : decode cX12_type 14 = .ok (.aload_n 0, 1) := by decide +kernel
theorem dX12_type_15 : decode cX12_type 15 = .ok (.getfield 96, 3) := by decide +kernel
theorem dX12_type_18 : decode cX12_type 18 = .ok (.bipush 60, 2) := by decide +kernel
theorem dX12_type_20 : decode cX12_type 20 = .ok (.if_icmp .ne 6, 3) := by decide +kernel
theorem dX12_type_23 : decode cX12_type 23 = .ok (.ldc 79, 2) := by decide +kernel
theorem dX12_type_25 : decode cX12_type 25 = .ok (.ireturn, 1) := by decide +kernel
theorem dX12_type_26 : decode cX12_type 26 = .ok (.aload_n 0, 1) := by decide +kernel
theorem dX12_type_27 : decode cX12_type 27 = .ok (.getfield 16, 3) := by decide +kernel
theorem dX12_type_30 : decode cX12_type 30 = .ok (.aload_n 0, 1) := by decide +kernel
theorem dX12_type_31 : decode cX12_type 31 = .ok (.getfield 96, 3) := by decide +kernel
theorem dX12_type_34 : decode cX12_type 34 = .ok (.iload_n 1, 1) := by decide +kernel
theorem dX12_type_35 : decode cX12_type 35 = .ok (.iastore, 1) := by decide +kernel
theorem dX12_type_36 : decode cX12_type 36 = .ok (.aload_n 0, 1) := by decide +kernel
theorem dX12_type_37 : decode cX12_type 37 = .ok (.dup, 1) := by decide +kernel
theorem dX12_type_38 : decode cX12_type 38 = .ok (.getfield 96, 3) := by decide +kernel
theorem dX12_type_41 : decode cX12_type 41 = .ok (.iconst 1, 1) := by decide +kernel
theorem dX12_type_42 : decode cX12_type 42 = .ok (.iadd, 1) := by decide +kernel
theorem dX12_type_43 : decode cX12_type 43 = .ok (.putfield 96, 3) := by decide +kernel
theorem dX12_type_46 : decode cX12_type 46 = .ok (.aload_n 0, 1) := by decide +kernel
theorem dX12_type_47 : decode cX12_type 47 = .ok (.getfield 96, 3) := by decide +kernel
theorem dX12_type_50 : decode cX12_type 50 = .ok (.ireturn, 1) := by decide +kernel
theorem dX12_clear_0 : decode cX12_clear 0 = .ok (.aload_n 0, 1) := by decide +kernel
theorem dX12_clear_1 : decode cX12_clear 1 = .ok (.getfield 96, 3) := by decide +kernel
theorem dX12_clear_4 : decode cX12_clear 4 = .ok (.istore_n 1, 1) := by decide +kernel
theorem dX12_clear_5 : decode cX12_clear 5 = .ok (.aload_n 0, 1) := by decide +kernel
theorem dX12_clear_6 : decode cX12_clear 6 = .ok (.iconst 0, 1) := by decide +kernel
theorem dX12_clear_7 : decode cX12_clear 7 = .ok (.putfield 96, 3) := by decide +kernel
theorem dX12_clear_10 : decode cX12_clear 10 = .ok (.iload_n 1, 1) := by decide +kernel
theorem dX12_clear_11 : decode cX12_clear 11 = .ok (.ireturn, 1) := by decide +kernel
theorem dX12_sign_0 : decode cX12_sign 0 = .ok (.aload_n 0, 1) := by decide +kernel
theorem dX12_sign_1 : decode cX12_sign 1 = .ok (.getfield 99, 3) := by decide +kernel
theorem dX12_sign_4 : decode cX12_sign 4 = .ok (.aload_n 0, 1) := by decide +kernel
theorem dX12_sign_5 : decode cX12_sign 5 = .ok (.getfield 96, 3) := by decide +kernel
theorem dX12_sign_8 : decode cX12_sign 8 = .ok (.if_icmp .ge 15, 3) := by decide +kernel
theorem dX12_sign_11 : decode cX12_sign 11 = .ok (.aload_n 0, 1) := by decide +kernel
theorem dX12_sign_12 : decode cX12_sign 12 = .ok (.getfield 16, 3) := by decide +kernel
theorem dX12_sign_15 : decode cX12_sign 15 = .ok (.aload_n 0, 1) := by decide +kernel
theorem dX12_sign_16 : decode cX12_sign 16 = .ok (.getfield 99, 3) := by decide +kernel
theorem dX12_sign_19 : decode cX12_sign 19 = .ok (.iaload, 1) := by decide +kernel
theorem dX12_sign_20 : decode cX12_sign 20 = .ok (.goto 4, 3) := by decide +kernel
theorem dX12_sign_23 : decode cX12_sign 23 = .ok (.iconst (-1), 1) := by decide +kernel
theorem dX12_sign_24 : decode cX12_sign 24 = .ok (.ireturn, 1) := by decide +kernel
set_option maxRecDepth 20000 in
theorem ggX12_takes_X12_sign : GoodIn wsX12_takes wsX12_sign := goodIn_r _ [6, 1, 7, 8, 9, 10, 11, 12, 13, 14, 15, 16, 17, 18, 19, 20, 21, 22, 23, 24, 25, 26, 27, 28, 29, 30, 31, 32, 33, 34, 35] (by decide +kernel) (by decide +kernel)
set_option maxRecDepth 20000 in
theorem gX12_takes_X12_sign : GoodIn wsX12_takes (wsV RX12 102 RX12 yX12_sign wsX12_sign) := goodIn_app (goodIn_of _ (by decide +kernel)) ggX12_takes_X12_sign
theorem dX12_takes_0 : decode cX12_takes 0 = .ok (.aload_n 0, 1) := by decide +kernel
theorem dX12_takes_1 : decode cX12_takes 1 = .ok (.invokevirtual 102, 3) := by decide +kernel
theorem dX12_takes_4 : decode cX12_takes 4 = .ok (.iload_n 1, 1) := by decide +kernel
theorem dX12_takes_5 : decode cX12_takes 5 = .ok (.if_icmp .ne 7, 3) := by decide +kernel
theorem dX12_takes_8 : decode cX12_takes 8 = .ok (.iconst 1, 1) := by decide +kernel
theorem dX12_takes_9 : decode cX12_takes 9 = .ok (.goto 4, 3) := by decide +kernel
theorem dX12_takes_12 : decode cX12_takes 12 = .ok (.iconst 0, 1) := by decide +kernel
theorem dX12_takes_13 : decode cX12_takes 13 = .ok (.istore_n 2, 1) := by decide +kernel
theorem dX12_takes_14 : decode cX12_takes 14 = .ok (.aload_n 0, 1) := by decide +kernel
theorem dX12_takes_15 : decode cX12_takes 15 = .ok (.dup, 1) := by decide +kernel
theorem dX12_takes_16 : decode cX12_takes 16 = .ok (.getfield 99, 3) := by decide +kernel
theorem dX12_takes_19 : decode cX12_takes 19 = .ok (.iload_n 2, 1) := by decide +kernel
theorem dX12_takes_20 : decode cX12_takes 20 = .ok (.ifCond .eq 7, 3) := by decide +kernel
theorem dX12_takes_23 : decode cX12_takes 23 = .ok (.iconst 1, 1) := by decide +kernel
theorem dX12_takes_24 : decode cX12_takes 24 = .ok (.goto 4, 3) := by decide +kernel
theorem dX12_takes_27 : decode cX12_takes 27 = .ok (.iconst 0, 1) := by decide +kernel
theorem dX12_takes_28 : decode cX12_takes 28 = .ok (.iadd, 1) := by decide +kernel
theorem dX12_takes_29 : decode cX12_takes 29 = .ok (.putfield 99, 3) := by decide +kernel
theorem dX12_takes_32 : decode cX12_takes 32 = .ok (.iload_n 2, 1) := by decide +kernel
theorem dX12_takes_33 : decode cX12_takes 33 = .ok (.ireturn, 1) := by decide +kernel
set_option maxRecDepth 20000 in
theorem ggX12_four_X12_takes : GoodIn wsX12_four wsX12_takes := goodIn_r _ [5, 6, 7, 8, 9, 4, 10, 11, 12, 13, 14, 15, 16, 17, 18, 19, 20, 21, 22, 23, 24, 25, 26, 27, 28, 29, 30, 31, 32, 33, 34, 35, 36, 37, 38, 39] (by decide +kernel) (by decide +kernel)
set_option maxRecDepth 20000 in
theorem gX12_four_X12_takes : GoodIn wsX12_four (wsV RX12 106 RX12 yX12_takes wsX12_takes) := goodIn_app (goodIn_of _ (by decide +kernel)) ggX12_four_X12_takes
theorem dX12_four_0 : decode cX12_four 0 = .ok (.aload_n 0, 1) := by decide +kernel
theorem dX12_four_1 : decode cX12_four 1 = .ok (.iload_n 1, 1) := by decide +kernel
theorem dX12_four_2 : decode cX12_four 2 = .ok (.invokevirtual 106, 3) := by decide +kernel
theorem dX12_four_5 : decode cX12_four 5 = .ok (.ifCond .eq 32, 3) := by decide +kernel
theorem dX12_four_8 : decode cX12_four 8 = .ok (.aload_n 0, 1) := by decide +kernel
theorem dX12_four_9 : decode cX12_four 9 = .ok (.iload_n 2, 1) := by decide +kernel
theorem dX12_four_10 : decode cX12_four 10 = .ok (.invokevirtual 106, 3) := by decide +kernel
theorem dX12_four_13 : decode cX12_four 13 = .ok (.ifCond .eq 24, 3) := by decide +kernel
theorem dX12_four_16 : decode cX12_four 16 = .ok (.aload_n 0, 1) := by decide +kernel
theorem dX12_four_17 : decode cX12_four 17 = .ok (.iload_n 3, 1) := by decide +kernel
theorem dX12_four_18 : decode cX12_four 18 = .ok (.invokevirtual 106, 3) := by decide +kernel
theorem dX12_four_21 : decode cX12_four 21 = .ok (.ifCond .eq 16, 3) := by decide +kernel
theorem dX12_four_24 : decode cX12_four 24 = .ok (.aload_n 0, 1) := by decide +kernel
theorem dX12_four_25 : decode cX12_four 25 = .ok (.iload 4, 2) := by decide +kernel
theorem dX12_four_27 : decode cX12_four 27 = .ok (.invokevirtual 106, 3) := by decide +kernel
theorem dX12_four_30 : decode cX12_four 30 = .ok (.ifCond .eq 7, 3) := by decide +kernel
theorem dX12_four_33 : decode cX12_four 33 = .ok (.iconst 1, 1) := by decide +kernel
theorem dX12_four_34 : decode cX12_four 34 = .ok (.goto 4, 3) := by decide +kernel
theorem dX12_four_37 : decode cX12_four 37 = .ok (.iconst 0, 1) := by decide +kernel
theorem dX12_four_38 : decode cX12_four 38 = .ok (.ireturn, 1) := by decide +kernel
set_option maxRecDepth 20000 in
theorem ggX12_word_X12_takes : GoodIn wsX12_word wsX12_takes := goodIn_r _ [7, 8, 9, 10, 11, 6, 12, 13, 14, 19, 20, 21, 22, 23, 24, 25, 26, 27, 28, 29, 30, 31, 32, 33, 34, 35, 36, 37, 38, 39, 40, 41, 42, 43, 44, 45] (by decide +kernel) (by decide +kernel)
set_option maxRecDepth 20000 in
theorem gX12_word_X12_takes : GoodIn wsX12_word (wsV RX12 106 RX12 yX12_takes wsX12_takes) := goodIn_app (goodIn_of _ (by decide +kernel)) ggX12_word_X12_takes
set_option maxRecDepth 20000 in
theorem ggX12_word_X12_sign : GoodIn wsX12_word wsX12_sign := goodIn_r _ [12, 8, 13, 14, 19, 20, 21, 22, 23, 24, 25, 26, 27, 28, 29, 30, 31, 32, 33, 34, 35, 36, 37, 38, 39, 40, 41, 42, 43, 44, 45] (by decide +kernel) (by decide +kernel)
set_option maxRecDepth 20000 in
theorem gX12_word_X12_sign : GoodIn wsX12_word (wsV RX12 102 RX12 yX12_sign wsX12_sign) := goodIn_app (goodIn_of _ (by decide +kernel)) ggX12_word_X12_sign
set_option maxRecDepth 20000 in
theorem ggX12_word_X12_four : GoodIn wsX12_word wsX12_four := goodIn_r _ [18, 3, 4, 5, 6, 7, 8, 9, 10, 11, 12, 13, 14, 19, 20, 21, 22, 23, 24, 25, 26, 27, 28, 29, 30, 31, 32, 33, 34, 35, 36, 37, 38, 39, 40, 41, 42, 43, 44, 45] (by decide +kernel) (by decide +kernel)
set_option maxRecDepth 20000 in
theorem gX12_word_X12_four : GoodIn wsX12_word (wsV RX12 109 RX12 yX12_four wsX12_four) := goodIn_app (goodIn_of _ (by decide +kernel)) ggX12_word_X12_four
theorem dX12_word_0 : decode cX12_word 0 = .ok (.iconst 0, 1) := by decide +kernel
theorem dX12_word_1 : decode cX12_word 1 = .ok (.istore_n 1, 1) := by decide +kernel
theorem dX12_word_2 : decode cX12_word 2 = .ok (.iconst 0, 1) := by decide +kernel
theorem dX12_word_3 : decode cX12_word 3 = .ok (.istore_n 2, 1) := by decide +kernel
theorem dX12_word_4 : decode cX12_word 4 = .ok (.aload_n 0, 1) := by decide +kernel
theorem dX12_word_5 : decode cX12_word 5 = .ok (.bipush 115, 2) := by decide +kernel
theorem dX12_word_7 : decode cX12_word 7 = .ok (.invokevirtual 106, 3) := by decide +kernel
theorem dX12_word_10 : decode cX12_word 10 = .ok (.ifCond .eq 74, 3) := by decide +kernel
theorem dX12_word_13 : decode cX12_word 13 = .ok (.aload_n 0, 1) := by decide +kernel
theorem dX12_word_14 : decode cX12_word 14 = .ok (.invokevirtual 102, 3) := by decide +kernel
theorem dX12_word_17 : decode cX12_word 17 = .ok (.bipush 112, 2) := by decide +kernel
theorem dX12_word_19 : decode cX12_word 19 = .ok (.if_icmp .ne 7, 3) := by decide +kernel
theorem dX12_word_22 : decode cX12_word 22 = .ok (.iconst 3, 1) := by decide +kernel
theorem dX12_word_23 : decode cX12_word 23 = .ok (.goto 4, 3) := by decide +kernel
theorem dX12_word_26 : decode cX12_word 26 = .ok (.iconst 0, 1) := by decide +kernel
theorem dX12_word_27 : decode cX12_word 27 = .ok (.istore_n 1, 1) := by decide +kernel
theorem dX12_word_28 : decode cX12_word 28 = .ok (.iload_n 1, 1) := by decide +kernel
theorem dX12_word_29 : decode cX12_word 29 = .ok (.iconst 3, 1) := by decide +kernel
theorem dX12_word_30 : decode cX12_word 30 = .ok (.if_icmp .ne 18, 3) := by decide +kernel
theorem dX12_word_33 : decode cX12_word 33 = .ok (.aload_n 0, 1) := by decide +kernel
theorem dX12_word_34 : decode cX12_word 34 = .ok (.bipush 112, 2) := by decide +kernel
theorem dX12_word_36 : decode cX12_word 36 = .ok (.bipush 108, 2) := by decide +kernel
theorem dX12_word_38 : decode cX12_word 38 = .ok (.bipush 105, 2) := by decide +kernel
theorem dX12_word_40 : decode cX12_word 40 = .ok (.bipush 116, 2) := by decide +kernel
theorem dX12_word_42 : decode cX12_word 42 = .ok (.invokevirtual 109, 3) := by decide +kernel
theorem dX12_word_45 : decode cX12_word 45 = .ok (.goto 35, 3) := by decide +kernel
theorem dX12_word_48 : decode cX12_word 48 = .ok (.aload_n 0, 1) := by decide +kernel
theorem dX12_word_49 : decode cX12_word 49 = .ok (.bipush 111, 2) := by decide +kernel
theorem dX12_word_51 : decode cX12_word 51 = .ok (.invokevirtual 106, 3) := by decide +kernel
theorem dX12_word_54 : decode cX12_word 54 = .ok (.ifCond .eq 25, 3) := by decide +kernel
theorem dX12_word_57 : decode cX12_word 57 = .ok (.aload_n 0, 1) := by decide +kernel
theorem dX12_word_58 : decode cX12_word 58 = .ok (.bipush 97, 2) := by decide +kernel
theorem dX12_word_60 : decode cX12_word 60 = .ok (.invokevirtual 106, 3) := by decide +kernel
theorem dX12_word_63 : decode cX12_word 63 = .ok (.ifCond .eq 16, 3) := by decide +kernel
theorem dX12_word_66 : decode cX12_word 66 = .ok (.aload_n 0, 1) := by decide +kernel
theorem dX12_word_67 : decode cX12_word 67 = .ok (.bipush 107, 2) := by decide +kernel
theorem dX12_word_69 : decode cX12_word 69 = .ok (.invokevirtual 106, 3) := by decide +kernel
theorem dX12_word_72 : decode cX12_word 72 = .ok (.ifCond .eq 7, 3) := by decide +kernel
theorem dX12_word_75 : decode cX12_word 75 = .ok (.iconst 1, 1) := by decide +kernel
theorem dX12_word_76 : decode cX12_word 76 = .ok (.goto 4, 3) := by decide +kernel
theorem dX12_word_79 : decode cX12_word 79 = .ok (.iconst 0, 1) := by decide +kernel
theorem dX12_word_80 : decode cX12_word 80 = .ok (.istore_n 2, 1) := by decide +kernel
theorem dX12_word_81 : decode cX12_word 81 = .ok (.goto 81, 3) := by decide +kernel
theorem dX12_word_84 : decode cX12_word 84 = .ok (.aload_n 0, 1) := by decide +kernel
theorem dX12_word_85 : decode cX12_word 85 = .ok (.invokevirtual 102, 3) := by decide +kernel
theorem dX12_word_88 : decode cX12_word 88 = .ok (.bipush 98, 2) := by decide +kernel
theorem dX12_word_90 : decode cX12_word 90 = .ok (.if_icmp .ne 21, 3) := by decide +kernel
theorem dX12_word_93 : decode cX12_word 93 = .ok (.iconst 1, 1) := by decide +kernel
theorem dX12_word_94 : decode cX12_word 94 = .ok (.istore_n 1, 1) := by decide +kernel
theorem dX12_word_95 : decode cX12_word 95 = .ok (.aload_n 0, 1) := by decide +kernel
theorem dX12_word_96 : decode cX12_word 96 = .ok (.bipush 98, 2) := by decide +kernel
theorem dX12_word_98 : decode cX12_word 98 = .ok (.bipush 97, 2) := by decide +kernel
theorem dX12_word_100 : decode cX12_word 100 = .ok (.bipush 99, 2) := by decide +kernel
theorem dX12_word_102 : decode cX12_word 102 = .ok (.bipush 107, 2) := by decide +kernel
theorem dX12_word_104 : decode cX12_word 104 = .ok (.invokevirtual 109, 3) := by decide +kernel
theorem dX12_word_107 : decode cX12_word 107 = .ok (.istore_n 2, 1) := by decide +kernel
theorem dX12_word_108 : decode cX12_word 108 = .ok (.goto 54, 3) := by decide +kernel
theorem dX12_word_111 : decode cX12_word 111 = .ok (.aload_n 0, 1) := by decide +kernel
theorem dX12_word_112 : decode cX12_word 112 = .ok (.invokevirtual 102, 3) := by decide +kernel
theorem dX12_word_115 : decode cX12_word 115 = .ok (.bipush 116, 2) := by decide +kernel
theorem dX12_word_117 : decode cX12_word 117 = .ok (.if_icmp .ne 21, 3) := by decide +kernel
theorem dX12_word_120 : decode cX12_word 120 = .ok (.iconst 2, 1) := by decide +kernel
theorem dX12_word_121 : decode cX12_word 121 = .ok (.istore_n 1, 1) := by decide +kernel
theorem dX12_word_122 : decode cX12_word 122 = .ok (.aload_n 0, 1) := by decide +kernel
theorem dX12_word_123 : decode cX12_word 123 = .ok (.bipush 116, 2) := by decide +kernel
theorem dX12_word_125 : decode cX12_word 125 = .ok (.bipush 105, 2) := by decide +kernel
theorem dX12_word_127 : decode cX12_word 127 = .ok (.bipush 108, 2) := by decide +kernel
theorem dX12_word_129 : decode cX12_word 129 = .ok (.bipush 116, 2) := by decide +kernel
theorem dX12_word_131 : decode cX12_word 131 = .ok (.invokevirtual 109, 3) := by decide +kernel
theorem dX12_word_134 : decode cX12_word 134 = .ok (.istore_n 2, 1) := by decide +kernel
theorem dX12_word_135 : decode cX12_word 135 = .ok (.goto 27, 3) := by decide +kernel
theorem dX12_word_138 : decode cX12_word 138 = .ok (.aload_n 0, 1) := by decide +kernel
theorem dX12_word_139 : decode cX12_word 139 = .ok (.invokevirtual 102, 3) := by decide +kernel
theorem dX12_word_142 : decode cX12_word 142 = .ok (.bipush 104, 2) := by decide +kernel
theorem dX12_word_144 : decode cX12_word 144 = .ok (.if_icmp .ne 18, 3) := by decide +kernel
theorem dX12_word_147 : decode cX12_word 147 = .ok (.iconst 4, 1) := by decide +kernel
theorem dX12_word_148 : decode cX12_word 148 = .ok (.istore_n 1, 1) := by decide +kernel
theorem dX12_word_149 : decode cX12_word 149 = .ok (.aload_n 0, 1) := by decide +kernel
theorem dX12_word_150 : decode cX12_word 150 = .ok (.bipush 104, 2) := by decide +kernel
theorem dX12_word_152 : decode cX12_word 152 = .ok (.bipush 101, 2) := by decide +kernel
theorem dX12_word_154 : decode cX12_word 154 = .ok (.bipush 97, 2) := by decide +kernel
theorem dX12_word_156 : decode cX12_word 156 = .ok (.bipush 114, 2) := by decide +kernel
theorem dX12_word_158 : decode cX12_word 158 = .ok (.invokevirtual 109, 3) := by decide +kernel
theorem dX12_word_161 : decode cX12_word 161 = .ok (.istore_n 2, 1) := by decide +kernel
theorem dX12_word_162 : decode cX12_word 162 = .ok (.aload_n 0, 1) := by decide +kernel
theorem dX12_word_163 : decode cX12_word 163 = .ok (.getfield 19, 3) := by decide +kernel
theorem dX12_word_166 : decode cX12_word 166 = .ok (.aload_n 0, 1) := by decide +kernel
theorem dX12_word_167 : decode cX12_word 167 = .ok (.getfield 113, 3) := by decide +kernel
theorem dX12_word_170 : decode cX12_word 170 = .ok (.bipush 12, 2) := by decide +kernel
theorem dX12_word_172 : decode cX12_word 172 = .ok (.irem, 1) := by decide +kernel
theorem dX12_word_173 : decode cX12_word 173 = .ok (.iload_n 1, 1) := by decide +kernel
theorem dX12_word_174 : decode cX12_word 174 = .ok (.iastore, 1) := by decide +kernel
theorem dX12_word_175 : decode cX12_word 175 = .ok (.iload_n 2, 1) := by decide +kernel
theorem dX12_word_176 : decode cX12_word 176 = .ok (.ifCond .eq 16, 3) := by decide +kernel
theorem dX12_word_179 : decode cX12_word 179 = .ok (.aload_n 0, 1) := by decide +kernel
theorem dX12_word_180 : decode cX12_word 180 = .ok (.bipush 58, 2) := by decide +kernel
theorem dX12_word_182 : decode cX12_word 182 = .ok (.invokevirtual 106, 3) := by decide +kernel
theorem dX12_word_185 : decode cX12_word 185 = .ok (.ifCond .eq 7, 3) := by decide +kernel
theorem dX12_word_188 : decode cX12_word 188 = .ok (.iconst 1, 1) := by decide +kernel
theorem dX12_word_189 : decode cX12_word 189 = .ok (.goto 4, 3) := by decide +kernel
theorem dX12_word_192 : decode cX12_word 192 = .ok (.iconst 0, 1) := by decide +kernel
theorem dX12_word_193 : decode cX12_word 193 = .ok (.ireturn, 1) := by decide +kernel
set_option maxRecDepth 20000 in
theorem ggX12_number_X12_sign : GoodIn wsX12_number wsX12_sign := goodIn_r _ [9, 1, 10, 11, 15, 16, 17, 18, 19, 20, 21, 22, 23, 24, 25, 26, 27, 28, 29, 30, 31, 32, 33, 34, 35, 36, 37, 38, 39, 40, 41] (by decide +kernel) (by decide +kernel)
set_option maxRecDepth 20000 in
theorem gX12_number_X12_sign : GoodIn wsX12_number (wsV RX12 102 RX12 yX12_sign wsX12_sign) := goodIn_app (goodIn_of _ (by decide +kernel)) ggX12_number_X12_sign
set_option maxRecDepth 20000 in
theorem ggX12_number_X12_in : GoodIn wsX12_number wsX12_in := goodIn_r _ [14] (by decide +kernel) (by decide +kernel)
set_option maxRecDepth 20000 in
theorem gX12_number_X12_in : GoodIn wsX12_number (va_wsS RX12 70 yX12_in wsX12_in) := goodIn_app (goodIn_of _ (by decide +kernel)) ggX12_number_X12_in
theorem dX12_number_0 : decode cX12_number 0 = .ok (.aload_n 0, 1) := by decide +kernel
theorem dX12_number_1 : decode cX12_number 1 = .ok (.getfield 99, 3) := by decide +kernel
theorem dX12_number_4 : decode cX12_number 4 = .ok (.istore 5, 2) := by decide +kernel
theorem dX12_number_6 : decode cX12_number 6 = .ok (.iconst 0, 1) := by decide +kernel
theorem dX12_number_7 : decode cX12_number 7 = .ok (.istore 6, 2) := by decide +kernel
theorem dX12_number_9 : decode cX12_number 9 = .ok (.iconst 0, 1) := by decide +kernel
theorem dX12_number_10 : decode cX12_number 10 = .ok (.istore 7, 2) := by decide +kernel
theorem dX12_number_12 : decode cX12_number 12 = .ok (.iload 6, 2) := by decide +kernel
theorem dX12_number_14 : decode cX12_number 14 = .ok (.iconst 5, 1) := by decide +kernel
theorem dX12_number_15 : decode cX12_number 15 = .ok (.if_icmp .ge 48, 3) := by decide +kernel
theorem dX12_number_18 : decode cX12_number 18 = .ok (.aload_n 0, 1) := by decide +kernel
theorem dX12_number_19 : decode cX12_number 19 = .ok (.invokevirtual 102, 3) := by decide +kernel
theorem dX12_number_22 : decode cX12_number 22 = .ok (.bipush 48, 2) := by decide +kernel
theorem dX12_number_24 : decode cX12_number 24 = .ok (.bipush 57, 2) := by decide +kernel
theorem dX12_number_26 : decode cX12_number 26 = .ok (.invokestatic 70, 3) := by decide +kernel
theorem dX12_number_29 : decode cX12_number 29 = .ok (.ifCond .eq 34, 3) := by decide +kernel
theorem dX12_number_32 : decode cX12_number 32 = .ok (.bipush 10, 2) := by decide +kernel
theorem dX12_number_34 : decode cX12_number 34 = .ok (.iload 7, 2) := by decide +kernel
theorem dX12_number_36 : decode cX12_number 36 = .ok (.imul, 1) := by decide +kernel
theorem dX12_number_37 : decode cX12_number 37 = .ok (.aload_n 0, 1) := by decide +kernel
theorem dX12_number_38 : decode cX12_number 38 = .ok (.invokevirtual 102, 3) := by decide +kernel
theorem dX12_number_41 : decode cX12_number 41 = .ok (.iadd, 1) := by decide +kernel
theorem dX12_number_42 : decode cX12_number 42 = .ok (.bipush 48, 2) := by decide +kernel
theorem dX12_number_44 : decode cX12_number 44 = .ok (.isub, 1) := by decide +kernel
theorem dX12_number_45 : decode cX12_number 45 = .ok (.istore 7, 2) := by decide +kernel
theorem dX12_number_47 : decode cX12_number 47 = .ok (.aload_n 0, 1) := by decide +kernel
theorem dX12_number_48 : decode cX12_number 48 = .ok (.dup, 1) := by decide +kernel
theorem dX12_number_49 : decode cX12_number 49 = .ok (.getfield 99, 3) := by decide +kernel
theorem dX12_number_52 : decode cX12_number 52 = .ok (.iconst 1, 1) := by decide +kernel
theorem dX12_number_53 : decode cX12_number 53 = .ok (.iadd, 1) := by decide +kernel
theorem dX12_number_54 : decode cX12_number 54 = .ok (.putfield 99, 3) := by decide +kernel
theorem dX12_number_57 : decode cX12_number 57 = .ok (.iinc 6 1, 3) := by decide +kernel
theorem dX12_number_60 : decode cX12_number 60 = .ok (.goto (-48), 3) := by decide +kernel
theorem dX12_number_63 : decode cX12_number 63 = .ok (.aload_n 0, 1) := by decide +kernel
theorem dX12_number_64 : decode cX12_number 64 = .ok (.aload_n 0, 1) := by decide +kernel
theorem dX12_number_65 : decode cX12_number 65 = .ok (.getfield 116, 3) := by decide +kernel
theorem dX12_number_68 : decode cX12_number 68 = .ok (.ifCond .ge 23, 3) := by decide +kernel
theorem dX12_number_71 : decode cX12_number 71 = .ok (.iload 6, 2) := by decide +kernel
theorem dX12_number_73 : decode cX12_number 73 = .ok (.ifCond .le 18, 3) := by decide +kernel
theorem dX12_number_76 : decode cX12_number 76 = .ok (.iload 7, 2) := by decide +kernel
theorem dX12_number_78 : decode cX12_number 78 = .ok (.iload_n 2, 1) := by decide +kernel
theorem dX12_number_79 : decode cX12_number 79 = .ok (.iload_n 3, 1) := by decide +kernel
theorem dX12_number_80 : decode cX12_number 80 = .ok (.invokestatic 70, 3) := by decide +kernel
theorem dX12_number_83 : decode cX12_number 83 = .ok (.ifCond .ne 8, 3) := by decide +kernel
theorem dX12_number_86 : decode cX12_number 86 = .ok (.iload 5, 2) := by decide +kernel
theorem dX12_number_88 : decode cX12_number 88 = .ok (.goto 7, 3) := by decide +kernel
theorem dX12_number_91 : decode cX12_number 91 = .ok (.aload_n 0, 1) := by decide +kernel
theorem dX12_number_92 : decode cX12_number 92 = .ok (.getfield 116, 3) := by decide +kernel
theorem dX12_number_95 : decode cX12_number 95 = .ok (.putfield 116, 3) := by decide +kernel
theorem dX12_number_98 : decode cX12_number 98 = .ok (.aload_n 0, 1) := by decide +kernel
theorem dX12_number_99 : decode cX12_number 99 = .ok (.getfield 22, 3) := by decide +kernel
theorem dX12_number_102 : decode cX12_number 102 = .ok (.iconst 3, 1) := by decide +kernel
theorem dX12_number_103 : decode cX12_number 103 = .ok (.aload_n 0, 1) := by decide +kernel
theorem dX12_number_104 : decode cX12_number 104 = .ok (.getfield 113, 3) := by decide +kernel
theorem dX12_number_107 : decode cX12_number 107 = .ok (.bipush 12, 2) := by decide +kernel
theorem dX12_number_109 : decode cX12_number 109 = .ok (.irem, 1) := by decide +kernel
theorem dX12_number_110 : decode cX12_number 110 = .ok (.imul, 1) := by decide +kernel
theorem dX12_number_111 : decode cX12_number 111 = .ok (.iload_n 1, 1) := by decide +kernel
theorem dX12_number_112 : decode cX12_number 112 = .ok (.iadd, 1) := by decide +kernel
theorem dX12_number_113 : decode cX12_number 113 = .ok (.iload 4, 2) := by decide +kernel
theorem dX12_number_115 : decode cX12_number 115 = .ok (.ifCond .eq 9, 3) := by decide +kernel
theorem dX12_number_118 : decode cX12_number 118 = .ok (.iload 7, 2) := by decide +kernel
theorem dX12_number_120 : decode cX12_number 120 = .ok (.ineg, 1) := by decide +kernel
theorem dX12_number_121 : decode cX12_number 121 = .ok (.goto 5, 3) := by decide +kernel
theorem dX12_number_124 : decode cX12_number 124 = .ok (.iload 7, 2) := by decide +kernel
theorem dX12_number_126 : decode cX12_number 126 = .ok (.iastore, 1) := by decide +kernel
theorem dX12_number_127 : decode cX12_number 127 = .ok (.iload 6, 2) := by decide +kernel
theorem dX12_number_129 : decode cX12_number 129 = .ok (.ifCond .le 7, 3) := by decide +kernel
theorem dX12_number_132 : decode cX12_number 132 = .ok (.iconst 1, 1) := by decide +kernel
theorem dX12_number_133 : decode cX12_number 133 = .ok (.goto 4, 3) := by decide +kernel
theorem dX12_number_136 : decode cX12_number 136 = .ok (.iconst 0, 1) := by decide +kernel
theorem dX12_number_137 : decode cX12_number 137 = .ok (.ireturn, 1) := by decide +kernel
set_option maxRecDepth 20000 in
theorem ggX12_readsPart_X12_word : GoodIn wsX12_readsPart wsX12_word := goodIn_r _ [8, 1, 2, 9, 10, 11, 7, 12, 13, 14, 15, 16, 17, 18, 19, 20, 21, 22, 23, 32, 33, 34, 35, 36, 37, 38, 39, 40, 41, 42, 43, 44, 45, 46, 47, 48, 49, 50, 51, 52, 53, 54, 55, 56, 57, 58] (by decide +kernel) (by decide +kernel)
set_option maxRecDepth 20000 in
theorem gX12_readsPart_X12_word : GoodIn wsX12_readsPart (wsV RX12 119 RX12 yX12_word wsX12_word) := goodIn_app (goodIn_of _ (by decide +kernel)) ggX12_readsPart_X12_word
set_option maxRecDepth 20000 in
theorem ggX12_readsPart_X12_number : GoodIn wsX12_readsPart wsX12_number := goodIn_r _ [27, 13, 28, 3, 2, 14, 15, 16, 7, 17, 18, 19, 29, 30, 31, 32, 33, 34, 35, 36, 37, 38, 39, 40, 41, 42, 43, 44, 45, 46, 47, 48, 49, 50, 51, 52, 53, 54, 55, 56, 57, 58] (by decide +kernel) (by decide +kernel)
set_option maxRecDepth 20000 in
theorem gX12_readsPart_X12_number : GoodIn wsX12_readsPart (wsV RX12 123 RX12 yX12_number wsX12_number) := goodIn_app (goodIn_of _ (by decide +kernel)) ggX12_readsPart_X12_number
set_option maxRecDepth 20000 in
theorem ggX12_readsPart_X12_takes : GoodIn wsX12_readsPart wsX12_takes := goodIn_r _ [12, 13, 14, 15, 16, 7, 17, 18, 19, 32, 33, 34, 35, 36, 37, 38, 39, 40, 41, 42, 43, 44, 45, 46, 47, 48, 49, 50, 51, 52, 53, 54, 55, 56, 57, 58] (by decide +kernel) (by decide +kernel)
set_option maxRecDepth 20000 in
theorem gX12_readsPart_X12_takes : GoodIn wsX12_readsPart (wsV RX12 106 RX12 yX12_takes wsX12_takes) := goodIn_app (goodIn_of _ (by decide +kernel)) ggX12_readsPart_X12_takes
theorem dX12_readsPart_0 : decode cX12_readsPart 0 = .ok (.aload_n 0, 1) := by decide +kernel
theorem dX12_readsPart_1 : decode cX12_readsPart 1 = .ok (.invokevirtual 119, 3) := by decide +kernel
theorem dX12_readsPart_4 : decode cX12_readsPart 4 = .ok (.ifCond .ne 5, 3) := by decide +kernel
theorem dX12_readsPart_7 : decode cX12_readsPart 7 = .ok (.iconst 0, 1) := by decide +kernel
theorem dX12_readsPart_8 : decode cX12_readsPart 8 = .ok (.ireturn, 1) := by decide +kernel
theorem dX12_readsPart_9 : decode cX12_readsPart 9 = .ok (.aload_n 0, 1) := by decide +kernel
theorem dX12_readsPart_10 : decode cX12_readsPart 10 = .ok (.getfield 19, 3) := by decide +kernel
theorem dX12_readsPart_13 : decode cX12_readsPart 13 = .ok (.aload_n 0, 1) := by decide +kernel
theorem dX12_readsPart_14 : decode cX12_readsPart 14 = .ok (.getfield 113, 3) := by decide +kernel
theorem dX12_readsPart_17 : decode cX12_readsPart 17 = .ok (.bipush 12, 2) := by decide +kernel
theorem dX12_readsPart_19 : decode cX12_readsPart 19 = .ok (.irem, 1) := by decide +kernel
theorem dX12_readsPart_20 : decode cX12_readsPart 20 = .ok (.iaload, 1) := by decide +kernel
theorem dX12_readsPart_21 : decode cX12_readsPart 21 = .ok (.istore_n 1, 1) := by decide +kernel
theorem dX12_readsPart_22 : decode cX12_readsPart 22 = .ok (.aload_n 0, 1) := by decide +kernel
theorem dX12_readsPart_23 : decode cX12_readsPart 23 = .ok (.getfield 22, 3) := by decide +kernel
theorem dX12_readsPart_26 : decode cX12_readsPart 26 = .ok (.iconst 3, 1) := by decide +kernel
theorem dX12_readsPart_27 : decode cX12_readsPart 27 = .ok (.aload_n 0, 1) := by decide +kernel
theorem dX12_readsPart_28 : decode cX12_readsPart 28 = .ok (.getfield 113, 3) := by decide +kernel
theorem dX12_readsPart_31 : decode cX12_readsPart 31 = .ok (.bipush 12, 2) := by decide +kernel
theorem dX12_readsPart_33 : decode cX12_readsPart 33 = .ok (.irem, 1) := by decide +kernel
theorem dX12_readsPart_34 : decode cX12_readsPart 34 = .ok (.imul, 1) := by decide +kernel
theorem dX12_readsPart_35 : decode cX12_readsPart 35 = .ok (.iconst 2, 1) := by decide +kernel
theorem dX12_readsPart_36 : decode cX12_readsPart 36 = .ok (.iadd, 1) := by decide +kernel
theorem dX12_readsPart_37 : decode cX12_readsPart 37 = .ok (.iconst 0, 1) := by decide +kernel
theorem dX12_readsPart_38 : decode cX12_readsPart 38 = .ok (.iastore, 1) := by decide +kernel
theorem dX12_readsPart_39 : decode cX12_readsPart 39 = .ok (.aload_n 0, 1) := by decide +kernel
theorem dX12_readsPart_40 : decode cX12_readsPart 40 = .ok (.iconst 0, 1) := by decide +kernel
theorem dX12_readsPart_41 : decode cX12_readsPart 41 = .ok (.iconst 0, 1) := by decide +kernel
theorem dX12_readsPart_42 : decode cX12_readsPart 42 = .ok (.sipush 27719, 3) := by decide +kernel
theorem dX12_readsPart_45 : decode cX12_readsPart 45 = .ok (.iconst 0, 1) := by decide +kernel
theorem dX12_readsPart_46 : decode cX12_readsPart 46 = .ok (.invokevirtual 123, 3) := by decide +kernel
theorem dX12_readsPart_49 : decode cX12_readsPart 49 = .ok (.ifCond .eq 25, 3) := by decide +kernel
theorem dX12_readsPart_52 : decode cX12_readsPart 52 = .ok (.aload_n 0, 1) := by decide +kernel
theorem dX12_readsPart_53 : decode cX12_readsPart 53 = .ok (.bipush 43, 2) := by decide +kernel
theorem dX12_readsPart_55 : decode cX12_readsPart 55 = .ok (.invokevirtual 106, 3) := by decide +kernel
theorem dX12_readsPart_58 : decode cX12_readsPart 58 = .ok (.ifCond .eq 16, 3) := by decide +kernel
theorem dX12_readsPart_61 : decode cX12_readsPart 61 = .ok (.aload_n 0, 1) := by decide +kernel
theorem dX12_readsPart_62 : decode cX12_readsPart 62 = .ok (.iconst 1, 1) := by decide +kernel
theorem dX12_readsPart_63 : decode cX12_readsPart 63 = .ok (.iconst 1, 1) := by decide +kernel
theorem dX12_readsPart_64 : decode cX12_readsPart 64 = .ok (.sipush 27720, 3) := by decide +kernel
theorem dX12_readsPart_67 : decode cX12_readsPart 67 = .ok (.iconst 0, 1) := by decide +kernel
theorem dX12_readsPart_68 : decode cX12_readsPart 68 = .ok (.invokevirtual 123, 3) := by decide +kernel
theorem dX12_readsPart_71 : decode cX12_readsPart 71 = .ok (.ifCond .ne 5, 3) := by decide +kernel
theorem dX12_readsPart_74 : decode cX12_readsPart 74 = .ok (.iconst 0, 1) := by decide +kernel
theorem dX12_readsPart_75 : decode cX12_readsPart 75 = .ok (.ireturn, 1) := by decide +kernel
theorem dX12_readsPart_76 : decode cX12_readsPart 76 = .ok (.iload_n 1, 1) := by decide +kernel
theorem dX12_readsPart_77 : decode cX12_readsPart 77 = .ok (.iconst 1, 1) := by decide +kernel
theorem dX12_readsPart_78 : decode cX12_readsPart 78 = .ok (.if_icmp .eq 8, 3) := by decide +kernel
theorem dX12_readsPart_81 : decode cX12_readsPart 81 = .ok (.iload_n 1, 1) := by decide +kernel
theorem dX12_readsPart_82 : decode cX12_readsPart 82 = .ok (.iconst 4, 1) := by decide +kernel
theorem dX12_readsPart_83 : decode cX12_readsPart 83 = .ok (.if_icmp .ne 5, 3) := by decide +kernel
theorem dX12_readsPart_86 : decode cX12_readsPart 86 = .ok (.iconst 1, 1) := by decide +kernel
theorem dX12_readsPart_87 : decode cX12_readsPart 87 = .ok (.ireturn, 1) := by decide +kernel
theorem dX12_readsPart_88 : decode cX12_readsPart 88 = .ok (.aload_n 0, 1) := by decide +kernel
theorem dX12_readsPart_89 : decode cX12_readsPart 89 = .ok (.bipush 44, 2) := by decide +kernel
theorem dX12_readsPart_91 : decode cX12_readsPart 91 = .ok (.invokevirtual 106, 3) := by decide +kernel
theorem dX12_readsPart_94 : decode cX12_readsPart 94 = .ok (.ifCond .ne 5, 3) := by decide +kernel
theorem dX12_readsPart_97 : decode cX12_readsPart 97 = .ok (.iconst 0, 1) := by decide +kernel
theorem dX12_readsPart_98 : decode cX12_readsPart 98 = .ok (.ireturn, 1) := by decide +kernel
theorem dX12_readsPart_99 : decode cX12_readsPart 99 = .ok (.iload_n 1, 1) := by decide +kernel
theorem dX12_readsPart_100 : decode cX12_readsPart 100 = .ok (.ifCond .eq 16, 3) := by decide +kernel
theorem dX12_readsPart_103 : decode cX12_readsPart 103 = .ok (.aload_n 0, 1) := by decide +kernel
theorem dX12_readsPart_104 : decode cX12_readsPart 104 = .ok (.bipush 45, 2) := by decide +kernel
theorem dX12_readsPart_106 : decode cX12_readsPart 106 = .ok (.invokevirtual 106, 3) := by decide +kernel
theorem dX12_readsPart_109 : decode cX12_readsPart 109 = .ok (.ifCond .eq 7, 3) := by decide +kernel
theorem dX12_readsPart_112 : decode cX12_readsPart 112 = .ok (.iconst 1, 1) := by decide +kernel
theorem dX12_readsPart_113 : decode cX12_readsPart 113 = .ok (.goto 4, 3) := by decide +kernel
theorem dX12_readsPart_116 : decode cX12_readsPart 116 = .ok (.iconst 0, 1) := by decide +kernel
theorem dX12_readsPart_117 : decode cX12_readsPart 117 = .ok (.istore_n 2, 1) := by decide +kernel
theorem dX12_readsPart_118 : decode cX12_readsPart 118 = .ok (.aload_n 0, 1) := by decide +kernel
theorem dX12_readsPart_119 : decode cX12_readsPart 119 = .ok (.iconst 2, 1) := by decide +kernel
theorem dX12_readsPart_120 : decode cX12_readsPart 120 = .ok (.iconst 0, 1) := by decide +kernel
theorem dX12_readsPart_121 : decode cX12_readsPart 121 = .ok (.iload_n 1, 1) := by decide +kernel
theorem dX12_readsPart_122 : decode cX12_readsPart 122 = .ok (.ifCond .ne 9, 3) := by decide +kernel
theorem dX12_readsPart_125 : decode cX12_readsPart 125 = .ok (.sipush 1000, 3) := by decide +kernel
theorem dX12_readsPart_128 : decode cX12_readsPart 128 = .ok (.goto 6, 3) := by decide +kernel
theorem dX12_readsPart_131 : decode cX12_readsPart 131 = .ok (.sipush 9999, 3) := by decide +kernel
theorem dX12_readsPart_134 : decode cX12_readsPart 134 = .ok (.iload_n 2, 1) := by decide +kernel
theorem dX12_readsPart_135 : decode cX12_readsPart 135 = .ok (.invokevirtual 123, 3) := by decide +kernel
theorem dX12_readsPart_138 : decode cX12_readsPart 138 = .ok (.ireturn, 1) := by decide +kernel
set_option maxRecDepth 20000 in
theorem ggX12_wrongAt_X12_readsPart : GoodIn wsX12_wrongAt wsX12_readsPart := goodIn_r _ [9, 10, 2, 11, 12, 13, 14, 8, 15, 16, 17, 18, 19, 1, 20, 21, 22, 23, 4, 24, 25, 26, 27, 28, 29, 30, 31, 32, 3, 33, 34, 35, 36, 37, 38, 39, 40, 41, 42, 43, 44, 45, 46, 47, 48, 49, 50, 51, 52, 53, 54, 55, 56, 57, 58, 59, 60, 61, 62] (by decide +kernel) (by decide +kernel)
set_option maxRecDepth 20000 in
theorem gX12_wrongAt_X12_readsPart : GoodIn wsX12_wrongAt (wsV RX12 127 RX12 yX12_readsPart wsX12_readsPart) := goodIn_app (goodIn_of _ (by decide +kernel)) ggX12_wrongAt_X12_readsPart
set_option maxRecDepth 20000 in
theorem ggX12_wrongAt_X12_takes : GoodIn wsX12_wrongAt wsX12_takes := goodIn_r _ [19, 1, 20, 21, 22, 8, 23, 4, 24, 36, 37, 38, 39, 40, 41, 42, 43, 44, 45, 46, 47, 48, 49, 50, 51, 52, 53, 54, 55, 56, 57, 58, 59, 60, 61, 62] (by decide +kernel) (by decide +kernel)
set_option maxRecDepth 20000 in
theorem gX12_wrongAt_X12_takes : GoodIn wsX12_wrongAt (wsV RX12 106 RX12 yX12_takes wsX12_takes) := goodIn_app (goodIn_of _ (by decide +kernel)) ggX12_wrongAt_X12_takes
theorem dX12_wrongAt_0 : decode cX12_wrongAt 0 = .ok (.aload_n 0, 1) := by decide +kernel
theorem dX12_wrongAt_1 : decode cX12_wrongAt 1 = .ok (.iconst 0, 1) := by decide +kernel
theorem dX12_wrongAt_2 : decode cX12_wrongAt 2 = .ok (.putfield 99, 3) := by decide +kernel
theorem dX12_wrongAt_5 : decode cX12_wrongAt 5 = .ok (.aload_n 0, 1) := by decide +kernel
theorem dX12_wrongAt_6 : decode cX12_wrongAt 6 = .ok (.iconst 0, 1) := by decide +kernel
theorem dX12_wrongAt_7 : decode cX12_wrongAt 7 = .ok (.putfield 113, 3) := by decide +kernel
theorem dX12_wrongAt_10 : decode cX12_wrongAt 10 = .ok (.aload_n 0, 1) := by decide +kernel
theorem dX12_wrongAt_11 : decode cX12_wrongAt 11 = .ok (.iconst (-1), 1) := by decide +kernel
theorem dX12_wrongAt_12 : decode cX12_wrongAt 12 = .ok (.putfield 116, 3) := by decide +kernel
theorem dX12_wrongAt_15 : decode cX12_wrongAt 15 = .ok (.iconst 1, 1) := by decide +kernel
theorem dX12_wrongAt_16 : decode cX12_wrongAt 16 = .ok (.istore_n 1, 1) := by decide +kernel
theorem dX12_wrongAt_17 : decode cX12_wrongAt 17 = .ok (.iload_n 1, 1) := by decide +kernel
theorem dX12_wrongAt_18 : decode cX12_wrongAt 18 = .ok (.ifCond .eq 35, 3) := by decide +kernel
theorem dX12_wrongAt_21 : decode cX12_wrongAt 21 = .ok (.aload_n 0, 1) := by decide +kernel
theorem dX12_wrongAt_22 : decode cX12_wrongAt 22 = .ok (.invokevirtual 127, 3) := by decide +kernel
theorem dX12_wrongAt_25 : decode cX12_wrongAt 25 = .ok (.ifCond .ne 8, 3) := by decide +kernel
theorem dX12_wrongAt_28 : decode cX12_wrongAt 28 = .ok (.aload_n 0, 1) := by decide +kernel
theorem dX12_wrongAt_29 : decode cX12_wrongAt 29 = .ok (.getfield 99, 3) := by decide +kernel
theorem dX12_wrongAt_32 : decode cX12_wrongAt 32 = .ok (.ireturn, 1) := by decide +kernel
theorem dX12_wrongAt_33 : decode cX12_wrongAt 33 = .ok (.aload_n 0, 1) := by decide +kernel
theorem dX12_wrongAt_34 : decode cX12_wrongAt 34 = .ok (.dup, 1) := by decide +kernel
theorem dX12_wrongAt_35 : decode cX12_wrongAt 35 = .ok (.getfield 113, 3) := by decide +kernel
theorem dX12_wrongAt_38 : decode cX12_wrongAt 38 = .ok (.iconst 1, 1) := by decide +kernel
theorem dX12_wrongAt_39 : decode cX12_wrongAt 39 = .ok (.iadd, 1) := by decide +kernel
theorem dX12_wrongAt_40 : decode cX12_wrongAt 40 = .ok (.putfield 113, 3) := by decide +kernel
theorem dX12_wrongAt_43 : decode cX12_wrongAt 43 = .ok (.aload_n 0, 1) := by decide +kernel
theorem dX12_wrongAt_44 : decode cX12_wrongAt 44 = .ok (.bipush 59, 2) := by decide +kernel
theorem dX12_wrongAt_46 : decode cX12_wrongAt 46 = .ok (.invokevirtual 106, 3) := by decide +kernel
theorem dX12_wrongAt_49 : decode cX12_wrongAt 49 = .ok (.istore_n 1, 1) := by decide +kernel
theorem dX12_wrongAt_50 : decode cX12_wrongAt 50 = .ok (.goto (-33), 3) := by decide +kernel
theorem dX12_wrongAt_53 : decode cX12_wrongAt 53 = .ok (.aload_n 0, 1) := by decide +kernel
theorem dX12_wrongAt_54 : decode cX12_wrongAt 54 = .ok (.getfield 99, 3) := by decide +kernel
theorem dX12_wrongAt_57 : decode cX12_wrongAt 57 = .ok (.aload_n 0, 1) := by decide +kernel
theorem dX12_wrongAt_58 : decode cX12_wrongAt 58 = .ok (.getfield 96, 3) := by decide +kernel
theorem dX12_wrongAt_61 : decode cX12_wrongAt 61 = .ok (.if_icmp .ge 10, 3) := by decide +kernel
theorem dX12_wrongAt_64 : decode cX12_wrongAt 64 = .ok (.aload_n 0, 1) := by decide +kernel
theorem dX12_wrongAt_65 : decode cX12_wrongAt 65 = .ok (.getfield 99, 3) := by decide +kernel
theorem dX12_wrongAt_68 : decode cX12_wrongAt 68 = .ok (.goto 7, 3) := by decide +kernel
theorem dX12_wrongAt_71 : decode cX12_wrongAt 71 = .ok (.aload_n 0, 1) := by decide +kernel
theorem dX12_wrongAt_72 : decode cX12_wrongAt 72 = .ok (.getfield 116, 3) := by decide +kernel
theorem dX12_wrongAt_75 : decode cX12_wrongAt 75 = .ok (.ireturn, 1) := by decide +kernel
set_option maxRecDepth 20000 in
theorem ggX12_read_X12_wrongAt : GoodIn wsX12_read wsX12_wrongAt := goodIn_r _ [11, 12, 2, 13, 6, 14, 15, 16, 10, 17, 4, 5, 18, 19, 20, 21, 22, 23, 24, 25, 26, 27, 28, 29, 30, 31, 32, 33, 34, 35, 36, 37, 38, 39, 40, 41, 52, 53, 54, 55, 56, 57, 58, 59, 60, 61, 62, 63, 64, 65, 66, 67, 68, 69, 70, 71, 72, 73, 74, 75, 76, 77, 78] (by decide +kernel) (by decide +kernel)
set_option maxRecDepth 20000 in
theorem gX12_read_X12_wrongAt : GoodIn wsX12_read (wsV RX12 130 RX12 yX12_wrongAt wsX12_wrongAt) := goodIn_app (goodIn_of _ (by decide +kernel)) ggX12_read_X12_wrongAt
set_option maxRecDepth 20000 in
theorem ggX12_read_X12_act : GoodIn wsX12_read wsX12_act := goodIn_r _ [45, 46, 47, 1, 52, 53, 54, 55, 56, 57, 58, 59, 60, 61, 62, 63, 64, 65, 66, 67, 68, 69, 70, 71, 72, 73, 74, 75, 76, 77, 78] (by decide +kernel) (by decide +kernel)
set_option maxRecDepth 20000 in
theorem gX12_read_X12_act : GoodIn wsX12_read (wsV RX12 80 RX12 yX12_act wsX12_act) := goodIn_app (goodIn_of _ (by decide +kernel)) ggX12_read_X12_act
set_option maxRecDepth 20000 in
theorem ggX12_read_X12_adds : GoodIn wsX12_read wsX12_adds := goodIn_r _ [51, 1, 52, 53, 54, 55, 56, 57, 58, 59, 60, 61, 62, 63, 64, 65, 66, 67, 68, 69, 70, 71, 72, 73, 74, 75, 76, 77, 78] (by decide +kernel) (by decide +kernel)
set_option maxRecDepth 20000 in
theorem gX12_read_X12_adds : GoodIn wsX12_read (wsV RX12 83 RX12 yX12_adds wsX12_adds) := goodIn_app (goodIn_of _ (by decide +kernel)) ggX12_read_X12_adds
theorem dX12_read_0 : decode cX12_read 0 = .ok (.aload_n 0, 1) := by decide +kernel
theorem dX12_read_1 : decode cX12_read 1 = .ok (.invokevirtual 130, 3) := by decide +kernel
theorem dX12_read_4 : decode cX12_read 4 = .ok (.istore_n 1, 1) := by decide +kernel
theorem dX12_read_5 : decode cX12_read 5 = .ok (.iload_n 1, 1) := by decide +kernel
theorem dX12_read_6 : decode cX12_read 6 = .ok (.ifCond .lt 9, 3) := by decide +kernel
theorem dX12_read_9 : decode cX12_read 9 = .ok (.sipush (-200), 3) := by decide +kernel
theorem dX12_read_12 : decode cX12_read 12 = .ok (.iload_n 1, 1) := by decide +kernel
theorem dX12_read_13 : decode cX12_read 13 = .ok (.isub, 1) := by decide +kernel
theorem dX12_read_14 : decode cX12_read 14 = .ok (.ireturn, 1) := by decide +kernel
theorem dX12_read_15 : decode cX12_read 15 = .ok (.aload_n 0, 1) := by decide +kernel
theorem dX12_read_16 : decode cX12_read 16 = .ok (.getfield 7, 3) := by decide +kernel
theorem dX12_read_19 : decode cX12_read 19 = .ok (.iconst 0, 1) := by decide +kernel
theorem dX12_read_20 : decode cX12_read 20 = .ok (.iaload, 1) := by decide +kernel
theorem dX12_read_21 : decode cX12_read 21 = .ok (.aload_n 0, 1) := by decide +kernel
theorem dX12_read_22 : decode cX12_read 22 = .ok (.getfield 113, 3) := by decide +kernel
theorem dX12_read_25 : decode cX12_read 25 = .ok (.iadd, 1) := by decide +kernel
theorem dX12_read_26 : decode cX12_read 26 = .ok (.bipush 12, 2) := by decide +kernel
theorem dX12_read_28 : decode cX12_read 28 = .ok (.if_icmp .le 6, 3) := by decide +kernel
theorem dX12_read_31 : decode cX12_read 31 = .ok (.ldc 79, 2) := by decide +kernel
theorem dX12_read_33 : decode cX12_read 33 = .ok (.ireturn, 1) := by decide +kernel
theorem dX12_read_34 : decode cX12_read 34 = .ok (.aload_n 0, 1) := by decide +kernel
theorem dX12_read_35 : decode cX12_read 35 = .ok (.invokevirtual 80, 3) := by decide +kernel
theorem dX12_read_38 : decode cX12_read 38 = .ok (.iconst 0, 1) := by decide +kernel
theorem dX12_read_39 : decode cX12_read 39 = .ok (.istore_n 2, 1) := by decide +kernel
theorem dX12_read_40 : decode cX12_read 40 = .ok (.iload_n 2, 1) := by decide +kernel
theorem dX12_read_41 : decode cX12_read 41 = .ok (.aload_n 0, 1) := by decide +kernel
theorem dX12_read_42 : decode cX12_read 42 = .ok (.getfield 113, 3) := by decide +kernel
theorem dX12_read_45 : decode cX12_read 45 = .ok (.if_icmp .ge 47, 3) := by decide +kernel
theorem dX12_read_48 : decode cX12_read 48 = .ok (.aload_n 0, 1) := by decide +kernel
theorem dX12_read_49 : decode cX12_read 49 = .ok (.aload_n 0, 1) := by decide +kernel
theorem dX12_read_50 : decode cX12_read 50 = .ok (.getfield 19, 3) := by decide +kernel
theorem dX12_read_53 : decode cX12_read 53 = .ok (.iload_n 2, 1) := by decide +kernel
theorem dX12_read_54 : decode cX12_read 54 = .ok (.iaload, 1) := by decide +kernel
theorem dX12_read_55 : decode cX12_read 55 = .ok (.aload_n 0, 1) := by decide +kernel
theorem dX12_read_56 : decode cX12_read 56 = .ok (.getfield 22, 3) := by decide +kernel
theorem dX12_read_59 : decode cX12_read 59 = .ok (.iconst 3, 1) := by decide +kernel
theorem dX12_read_60 : decode cX12_read 60 = .ok (.iload_n 2, 1) := by decide +kernel
theorem dX12_read_61 : decode cX12_read 61 = .ok (.imul, 1) := by decide +kernel
theorem dX12_read_62 : decode cX12_read 62 = .ok (.iaload, 1) := by decide +kernel
theorem dX12_read_63 : decode cX12_read 63 = .ok (.aload_n 0, 1) := by decide +kernel
theorem dX12_read_64 : decode cX12_read 64 = .ok (.getfield 22, 3) := by decide +kernel
theorem dX12_read_67 : decode cX12_read 67 = .ok (.iconst 3, 1) := by decide +kernel
theorem dX12_read_68 : decode cX12_read 68 = .ok (.iload_n 2, 1) := by decide +kernel
theorem dX12_read_69 : decode cX12_read 69 = .ok (.imul, 1) := by decide +kernel
theorem dX12_read_70 : decode cX12_read 70 = .ok (.iconst 1, 1) := by decide +kernel
theorem dX12_read_71 : decode cX12_read 71 = .ok (.iadd, 1) := by decide +kernel
theorem dX12_read_72 : decode cX12_read 72 = .ok (.iaload, 1) := by decide +kernel
theorem dX12_read_73 : decode cX12_read 73 = .ok (.aload_n 0, 1) := by decide +kernel
theorem dX12_read_74 : decode cX12_read 74 = .ok (.getfield 22, 3) := by decide +kernel
theorem dX12_read_77 : decode cX12_read 77 = .ok (.iconst 3, 1) := by decide +kernel
theorem dX12_read_78 : decode cX12_read 78 = .ok (.iload_n 2, 1) := by decide +kernel
theorem dX12_read_79 : decode cX12_read 79 = .ok (.imul, 1) := by decide +kernel
theorem dX12_read_80 : decode cX12_read 80 = .ok (.iconst 2, 1) := by decide +kernel
theorem dX12_read_81 : decode cX12_read 81 = .ok (.iadd, 1) := by decide +kernel
theorem dX12_read_82 : decode cX12_read 82 = .ok (.iaload, 1) := by decide +kernel
theorem dX12_read_83 : decode cX12_read 83 = .ok (.invokevirtual 83, 3) := by decide +kernel
theorem dX12_read_86 : decode cX12_read 86 = .ok (.iinc 2 1, 3) := by decide +kernel
theorem dX12_read_89 : decode cX12_read 89 = .ok (.goto (-49), 3) := by decide +kernel
theorem dX12_read_92 : decode cX12_read 92 = .ok (.aload_n 0, 1) := by decide +kernel
theorem dX12_read_93 : decode cX12_read 93 = .ok (.iconst 0, 1) := by decide +kernel
theorem dX12_read_94 : decode cX12_read 94 = .ok (.putfield 96, 3) := by decide +kernel
theorem dX12_read_97 : decode cX12_read 97 = .ok (.aload_n 0, 1) := by decide +kernel
theorem dX12_read_98 : decode cX12_read 98 = .ok (.getfield 113, 3) := by decide +kernel
theorem dX12_read_101 : decode cX12_read 101 = .ok (.ireturn, 1) := by decide +kernel
set_option maxRecDepth 20000 in
theorem ggX12_isStep_X12_in : GoodIn wsX12_isStep wsX12_in := goodIn_r _ [4] (by decide +kernel) (by decide +kernel)
set_option maxRecDepth 20000 in
theorem gX12_isStep_X12_in : GoodIn wsX12_isStep (va_wsS RX12 70 yX12_in wsX12_in) := goodIn_app (goodIn_of _ (by decide +kernel)) ggX12_isStep_X12_in
theorem dX12_isStep_0 : decode cX12_isStep 0 = .ok (.iload_n 0, 1) := by decide +kernel
theorem dX12_isStep_1 : decode cX12_isStep 1 = .ok (.ifCond .eq 20, 3) := by decide +kernel
theorem dX12_isStep_4 : decode cX12_isStep 4 = .ok (.iload_n 0, 1) := by decide +kernel
theorem dX12_isStep_5 : decode cX12_isStep 5 = .ok (.sipush (-13859), 3) := by decide +kernel
theorem dX12_isStep_8 : decode cX12_isStep 8 = .ok (.sipush 13859, 3) := by decide +kernel
theorem dX12_isStep_11 : decode cX12_isStep 11 = .ok (.invokestatic 70, 3) := by decide +kernel
theorem dX12_isStep_14 : decode cX12_isStep 14 = .ok (.ifCond .eq 7, 3) := by decide +kernel
theorem dX12_isStep_17 : decode cX12_isStep 17 = .ok (.iconst 1, 1) := by decide +kernel
theorem dX12_isStep_18 : decode cX12_isStep 18 = .ok (.goto 4, 3) := by decide +kernel
theorem dX12_isStep_21 : decode cX12_isStep 21 = .ok (.iconst 0, 1) := by decide +kernel
theorem dX12_isStep_22 : decode cX12_isStep 22 = .ok (.ireturn, 1) := by decide +kernel
theorem dX12_wide_0 : decode cX12_wide 0 = .ok (.lload_n 0, 1) := by decide +kernel
theorem dX12_wide_1 : decode cX12_wide 1 = .ok (.ldc2_w 133, 3) := by decide +kernel
theorem dX12_wide_4 : decode cX12_wide 4 = .ok (.lload_n 0, 1) := by decide +kernel
theorem dX12_wide_5 : decode cX12_wide 5 = .ok (.lsub, 1) := by decide +kernel
theorem dX12_wide_6 : decode cX12_wide 6 = .ok (.lmul, 1) := by decide +kernel
theorem dX12_wide_7 : decode cX12_wide 7 = .ok (.lstore 4, 2) := by decide +kernel
theorem dX12_wide_9 : decode cX12_wide 9 = .ok (.lload_n 2, 1) := by decide +kernel
theorem dX12_wide_10 : decode cX12_wide 10 = .ok (.ldc2_w 135, 3) := by decide +kernel
theorem dX12_wide_13 : decode cX12_wide 13 = .ok (.lmul, 1) := by decide +kernel
theorem dX12_wide_14 : decode cX12_wide 14 = .ok (.lload 4, 2) := by decide +kernel
theorem dX12_wide_16 : decode cX12_wide 16 = .ok (.lmul, 1) := by decide +kernel
theorem dX12_wide_17 : decode cX12_wide 17 = .ok (.ldc2_w 137, 3) := by decide +kernel
theorem dX12_wide_20 : decode cX12_wide 20 = .ok (.ldc2_w 139, 3) := by decide +kernel
theorem dX12_wide_23 : decode cX12_wide 23 = .ok (.lload 4, 2) := by decide +kernel
theorem dX12_wide_25 : decode cX12_wide 25 = .ok (.lmul, 1) := by decide +kernel
theorem dX12_wide_26 : decode cX12_wide 26 = .ok (.lsub, 1) := by decide +kernel
theorem dX12_wide_27 : decode cX12_wide 27 = .ok (.ldiv, 1) := by decide +kernel
theorem dX12_wide_28 : decode cX12_wide 28 = .ok (.l2i, 1) := by decide +kernel
theorem dX12_wide_29 : decode cX12_wide 29 = .ok (.ireturn, 1) := by decide +kernel
set_option maxRecDepth 20000 in
theorem ggX12_chord_X12_wide : GoodIn wsX12_chord wsX12_wide := goodIn_r _ [5, 6, 7, 8, 9] (by decide +kernel) (by decide +kernel)
set_option maxRecDepth 20000 in
theorem gX12_chord_X12_wide : GoodIn wsX12_chord (va_wsS RX12 143 yX12_wide wsX12_wide) := goodIn_app (goodIn_of _ (by decide +kernel)) ggX12_chord_X12_wide
theorem dX12_chord_0 : decode cX12_chord 0 = .ok (.iload_n 0, 1) := by decide +kernel
theorem dX12_chord_1 : decode cX12_chord 1 = .ok (.ifCond .ge 9, 3) := by decide +kernel
theorem dX12_chord_4 : decode cX12_chord 4 = .ok (.iload_n 0, 1) := by decide +kernel
theorem dX12_chord_5 : decode cX12_chord 5 = .ok (.ineg, 1) := by decide +kernel
theorem dX12_chord_6 : decode cX12_chord 6 = .ok (.i2l, 1) := by decide +kernel
theorem dX12_chord_7 : decode cX12_chord 7 = .ok (.goto 5, 3) := by decide +kernel
theorem dX12_chord_10 : decode cX12_chord 10 = .ok (.iload_n 0, 1) := by decide +kernel
theorem dX12_chord_11 : decode cX12_chord 11 = .ok (.i2l, 1) := by decide +kernel
theorem dX12_chord_12 : decode cX12_chord 12 = .ok (.ldc2_w 141, 3) := by decide +kernel
theorem dX12_chord_15 : decode cX12_chord 15 = .ok (.invokestatic 143, 3) := by decide +kernel
theorem dX12_chord_18 : decode cX12_chord 18 = .ok (.ireturn, 1) := by decide +kernel
set_option maxRecDepth 20000 in
theorem ggX12_time_X12_isStep : GoodIn wsX12_time wsX12_isStep := goodIn_r _ [5, 6, 7, 4, 8] (by decide +kernel) (by decide +kernel)
set_option maxRecDepth 20000 in
theorem gX12_time_X12_isStep : GoodIn wsX12_time (va_wsS RX12 147 yX12_isStep wsX12_isStep) := goodIn_app (goodIn_of _ (by decide +kernel)) ggX12_time_X12_isStep
set_option maxRecDepth 20000 in
theorem ggX12_time_X12_chord : GoodIn wsX12_time wsX12_chord := goodIn_r _ [11, 12, 13, 14, 4, 15, 16, 17, 18, 19] (by decide +kernel) (by decide +kernel)
set_option maxRecDepth 20000 in
theorem gX12_time_X12_chord : GoodIn wsX12_time (va_wsS RX12 150 yX12_chord wsX12_chord) := goodIn_app (goodIn_of _ (by decide +kernel)) ggX12_time_X12_chord
theorem dX12_time_0 : decode cX12_time 0 = .ok (.iload_n 1, 1) := by decide +kernel
theorem dX12_time_1 : decode cX12_time 1 = .ok (.invokestatic 147, 3) := by decide +kernel
theorem dX12_time_4 : decode cX12_time 4 = .ok (.ifCond .eq 10, 3) := by decide +kernel
theorem dX12_time_7 : decode cX12_time 7 = .ok (.iload_n 1, 1) := by decide +kernel
theorem dX12_time_8 : decode cX12_time 8 = .ok (.invokestatic 150, 3) := by decide +kernel
theorem dX12_time_11 : decode cX12_time 11 = .ok (.goto 5, 3) := by decide +kernel
theorem dX12_time_14 : decode cX12_time 14 = .ok (.ldc 78, 2) := by decide +kernel
theorem dX12_time_16 : decode cX12_time 16 = .ok (.ireturn, 1) := by decide +kernel
set_option maxRecDepth 20000 in
theorem ggX12_circle_X12_wide : GoodIn wsX12_circle wsX12_wide := goodIn_r _ [5, 6, 7, 8, 9] (by decide +kernel) (by decide +kernel)
set_option maxRecDepth 20000 in
theorem gX12_circle_X12_wide : GoodIn wsX12_circle (va_wsS RX12 143 yX12_wide wsX12_wide) := goodIn_app (goodIn_of _ (by decide +kernel)) ggX12_circle_X12_wide
theorem dX12_circle_0 : decode cX12_circle 0 = .ok (.sipush 13860, 3) := by decide +kernel
theorem dX12_circle_3 : decode cX12_circle 3 = .ok (.iload_n 0, 1) := by decide +kernel
theorem dX12_circle_4 : decode cX12_circle 4 = .ok (.ifCond .ge 8, 3) := by decide +kernel
theorem dX12_circle_7 : decode cX12_circle 7 = .ok (.iload_n 0, 1) := by decide +kernel
theorem dX12_circle_8 : decode cX12_circle 8 = .ok (.ineg, 1) := by decide +kernel
theorem dX12_circle_9 : decode cX12_circle 9 = .ok (.goto 4, 3) := by decide +kernel
theorem dX12_circle_12 : decode cX12_circle 12 = .ok (.iload_n 0, 1) := by decide +kernel
theorem dX12_circle_13 : decode cX12_circle 13 = .ok (.isub, 1) := by decide +kernel
theorem dX12_circle_14 : decode cX12_circle 14 = .ok (.i2l, 1) := by decide +kernel
theorem dX12_circle_15 : decode cX12_circle 15 = .ok (.ldc2_w 154, 3) := by decide +kernel
theorem dX12_circle_18 : decode cX12_circle 18 = .ok (.invokestatic 143, 3) := by decide +kernel
theorem dX12_circle_21 : decode cX12_circle 21 = .ok (.ireturn, 1) := by decide +kernel
set_option maxRecDepth 20000 in
theorem ggX12_caustic_X12_isStep : GoodIn wsX12_caustic wsX12_isStep := goodIn_r _ [5, 6, 7, 4, 8] (by decide +kernel) (by decide +kernel)
set_option maxRecDepth 20000 in
theorem gX12_caustic_X12_isStep : GoodIn wsX12_caustic (va_wsS RX12 147 yX12_isStep wsX12_isStep) := goodIn_app (goodIn_of _ (by decide +kernel)) ggX12_caustic_X12_isStep
set_option maxRecDepth 20000 in
theorem ggX12_caustic_X12_circle : GoodIn wsX12_caustic wsX12_circle := goodIn_r _ [11, 12, 13, 14, 4, 15, 16, 17, 18, 19] (by decide +kernel) (by decide +kernel)
set_option maxRecDepth 20000 in
theorem gX12_caustic_X12_circle : GoodIn wsX12_caustic (va_wsS RX12 156 yX12_circle wsX12_circle) := goodIn_app (goodIn_of _ (by decide +kernel)) ggX12_caustic_X12_circle
theorem dX12_caustic_0 : decode cX12_caustic 0 = .ok (.iload_n 1, 1) := by decide +kernel
theorem dX12_caustic_1 : decode cX12_caustic 1 = .ok (.invokestatic 147, 3) := by decide +kernel
theorem dX12_caustic_4 : decode cX12_caustic 4 = .ok (.ifCond .eq 10, 3) := by decide +kernel
theorem dX12_caustic_7 : decode cX12_caustic 7 = .ok (.iload_n 1, 1) := by decide +kernel
theorem dX12_caustic_8 : decode cX12_caustic 8 = .ok (.invokestatic 156, 3) := by decide +kernel
theorem dX12_caustic_11 : decode cX12_caustic 11 = .ok (.goto 5, 3) := by decide +kernel
theorem dX12_caustic_14 : decode cX12_caustic 14 = .ok (.ldc 78, 2) := by decide +kernel
theorem dX12_caustic_16 : decode cX12_caustic 16 = .ok (.ireturn, 1) := by decide +kernel
theorem dX12_common_0 : decode cX12_common 0 = .ok (.sipush 27720, 3) := by decide +kernel
theorem dX12_common_3 : decode cX12_common 3 = .ok (.istore_n 1, 1) := by decide +kernel
theorem dX12_common_4 : decode cX12_common 4 = .ok (.iload_n 0, 1) := by decide +kernel
theorem dX12_common_5 : decode cX12_common 5 = .ok (.istore_n 2, 1) := by decide +kernel
theorem dX12_common_6 : decode cX12_common 6 = .ok (.iload_n 2, 1) := by decide +kernel
theorem dX12_common_7 : decode cX12_common 7 = .ok (.ifCond .le 14, 3) := by decide +kernel
theorem dX12_common_10 : decode cX12_common 10 = .ok (.iload_n 1, 1) := by decide +kernel
theorem dX12_common_11 : decode cX12_common 11 = .ok (.iload_n 2, 1) := by decide +kernel
theorem dX12_common_12 : decode cX12_common 12 = .ok (.irem, 1) := by decide +kernel
theorem dX12_common_13 : decode cX12_common 13 = .ok (.istore_n 3, 1) := by decide +kernel
theorem dX12_common_14 : decode cX12_common 14 = .ok (.iload_n 2, 1) := by decide +kernel
theorem dX12_common_15 : decode cX12_common 15 = .ok (.istore_n 1, 1) := by decide +kernel
theorem dX12_common_16 : decode cX12_common 16 = .ok (.iload_n 3, 1) := by decide +kernel
theorem dX12_common_17 : decode cX12_common 17 = .ok (.istore_n 2, 1) := by decide +kernel
theorem dX12_common_18 : decode cX12_common 18 = .ok (.goto (-12), 3) := by decide +kernel
theorem dX12_common_21 : decode cX12_common 21 = .ok (.iload_n 1, 1) := by decide +kernel
theorem dX12_common_22 : decode cX12_common 22 = .ok (.ireturn, 1) := by decide +kernel
theorem dX12_size_0 : decode cX12_size 0 = .ok (.iload_n 0, 1) := by decide +kernel
theorem dX12_size_1 : decode cX12_size 1 = .ok (.ifCond .ge 8, 3) := by decide +kernel
theorem dX12_size_4 : decode cX12_size 4 = .ok (.iload_n 0, 1) := by decide +kernel
theorem dX12_size_5 : decode cX12_size 5 = .ok (.ineg, 1) := by decide +kernel
theorem dX12_size_6 : decode cX12_size 6 = .ok (.goto 4, 3) := by decide +kernel
theorem dX12_size_9 : decode cX12_size 9 = .ok (.iload_n 0, 1) := by decide +kernel
theorem dX12_size_10 : decode cX12_size 10 = .ok (.ireturn, 1) := by decide +kernel
set_option maxRecDepth 20000 in
theorem ggX12_order_X12_isStep : GoodIn wsX12_order wsX12_isStep := goodIn_r _ [5, 6, 7, 4, 8] (by decide +kernel) (by decide +kernel)
set_option maxRecDepth 20000 in
theorem gX12_order_X12_isStep : GoodIn wsX12_order (va_wsS RX12 147 yX12_isStep wsX12_isStep) := goodIn_app (goodIn_of _ (by decide +kernel)) ggX12_order_X12_isStep
set_option maxRecDepth 20000 in
theorem ggX12_order_X12_size : GoodIn wsX12_order wsX12_size := goodIn_r _ [11] (by decide +kernel) (by decide +kernel)
set_option maxRecDepth 20000 in
theorem gX12_order_X12_size : GoodIn wsX12_order (va_wsS RX12 159 yX12_size wsX12_size) := goodIn_app (goodIn_of _ (by decide +kernel)) ggX12_order_X12_size
set_option maxRecDepth 20000 in
theorem ggX12_order_X12_common : GoodIn wsX12_order wsX12_common := goodIn_r _ [14] (by decide +kernel) (by decide +kernel)
set_option maxRecDepth 20000 in
theorem gX12_order_X12_common : GoodIn wsX12_order (va_wsS RX12 162 yX12_common wsX12_common) := goodIn_app (goodIn_of _ (by decide +kernel)) ggX12_order_X12_common
theorem dX12_order_0 : decode cX12_order 0 = .ok (.iload_n 1, 1) := by decide +kernel
theorem dX12_order_1 : decode cX12_order 1 = .ok (.invokestatic 147, 3) := by decide +kernel
theorem dX12_order_4 : decode cX12_order 4 = .ok (.ifCond .eq 17, 3) := by decide +kernel
theorem dX12_order_7 : decode cX12_order 7 = .ok (.sipush 27720, 3) := by decide +kernel
theorem dX12_order_10 : decode cX12_order 10 = .ok (.iload_n 1, 1) := by decide +kernel
theorem dX12_order_11 : decode cX12_order 11 = .ok (.invokestatic 159, 3) := by decide +kernel
theorem dX12_order_14 : decode cX12_order 14 = .ok (.invokestatic 162, 3) := by decide +kernel
theorem dX12_order_17 : decode cX12_order 17 = .ok (.idiv, 1) := by decide +kernel
theorem dX12_order_18 : decode cX12_order 18 = .ok (.goto 5, 3) := by decide +kernel
theorem dX12_order_21 : decode cX12_order 21 = .ok (.ldc 78, 2) := by decide +kernel
theorem dX12_order_23 : decode cX12_order 23 = .ok (.ireturn, 1) := by decide +kernel
set_option maxRecDepth 20000 in
theorem ggX12_turns_X12_isStep : GoodIn wsX12_turns wsX12_isStep := goodIn_r _ [5, 6, 7, 4, 8] (by decide +kernel) (by decide +kernel)
set_option maxRecDepth 20000 in
theorem gX12_turns_X12_isStep : GoodIn wsX12_turns (va_wsS RX12 147 yX12_isStep wsX12_isStep) := goodIn_app (goodIn_of _ (by decide +kernel)) ggX12_turns_X12_isStep
set_option maxRecDepth 20000 in
theorem ggX12_turns_X12_size : GoodIn wsX12_turns wsX12_size := goodIn_r _ [11] (by decide +kernel) (by decide +kernel)
set_option maxRecDepth 20000 in
theorem gX12_turns_X12_size : GoodIn wsX12_turns (va_wsS RX12 159 yX12_size wsX12_size) := goodIn_app (goodIn_of _ (by decide +kernel)) ggX12_turns_X12_size
set_option maxRecDepth 20000 in
theorem ggX12_turns_X12_common : GoodIn wsX12_turns wsX12_common := goodIn_r _ [14] (by decide +kernel) (by decide +kernel)
set_option maxRecDepth 20000 in
theorem gX12_turns_X12_common : GoodIn wsX12_turns (va_wsS RX12 162 yX12_common wsX12_common) := goodIn_app (goodIn_of _ (by decide +kernel)) ggX12_turns_X12_common
theorem dX12_turns_0 : decode cX12_turns 0 = .ok (.iload_n 1, 1) := by decide +kernel
theorem dX12_turns_1 : decode cX12_turns 1 = .ok (.invokestatic 147, 3) := by decide +kernel
theorem dX12_turns_4 : decode cX12_turns 4 = .ok (.ifCond .eq 18, 3) := by decide +kernel
theorem dX12_turns_7 : decode cX12_turns 7 = .ok (.iload_n 1, 1) := by decide +kernel
theorem dX12_turns_8 : decode cX12_turns 8 = .ok (.invokestatic 159, 3) := by decide +kernel
theorem dX12_turns_11 : decode cX12_turns 11 = .ok (.iload_n 1, 1) := by decide +kernel
theorem dX12_turns_12 : decode cX12_turns 12 = .ok (.invokestatic 159, 3) := by decide +kernel
theorem dX12_turns_15 : decode cX12_turns 15 = .ok (.invokestatic 162, 3) := by decide +kernel
theorem dX12_turns_18 : decode cX12_turns 18 = .ok (.idiv, 1) := by decide +kernel
theorem dX12_turns_19 : decode cX12_turns 19 = .ok (.goto 5, 3) := by decide +kernel
theorem dX12_turns_22 : decode cX12_turns 22 = .ok (.ldc 78, 2) := by decide +kernel
theorem dX12_turns_24 : decode cX12_turns 24 = .ok (.ireturn, 1) := by decide +kernel
set_option maxRecDepth 20000 in
theorem ggX12_isPlace_X12_in : GoodIn wsX12_isPlace wsX12_in := goodIn_r _ [4] (by decide +kernel) (by decide +kernel)
set_option maxRecDepth 20000 in
theorem gX12_isPlace_X12_in : GoodIn wsX12_isPlace (va_wsS RX12 70 yX12_in wsX12_in) := goodIn_app (goodIn_of _ (by decide +kernel)) ggX12_isPlace_X12_in
theorem dX12_isPlace_0 : decode cX12_isPlace 0 = .ok (.iload_n 0, 1) := by decide +kernel
theorem dX12_isPlace_1 : decode cX12_isPlace 1 = .ok (.iconst 0, 1) := by decide +kernel
theorem dX12_isPlace_2 : decode cX12_isPlace 2 = .ok (.sipush 27719, 3) := by decide +kernel
theorem dX12_isPlace_5 : decode cX12_isPlace 5 = .ok (.invokestatic 70, 3) := by decide +kernel
theorem dX12_isPlace_8 : decode cX12_isPlace 8 = .ok (.ireturn, 1) := by decide +kernel
set_option maxRecDepth 20000 in
theorem ggX12_aim_X12_isPlace : GoodIn wsX12_aim wsX12_isPlace := goodIn_r _ [6, 7, 8, 5, 9] (by decide +kernel) (by decide +kernel)
set_option maxRecDepth 20000 in
theorem gX12_aim_X12_isPlace : GoodIn wsX12_aim (va_wsS RX12 165 yX12_isPlace wsX12_isPlace) := goodIn_app (goodIn_of _ (by decide +kernel)) ggX12_aim_X12_isPlace
set_option maxRecDepth 20000 in
theorem ggX12_aim_X12_in : GoodIn wsX12_aim wsX12_in := goodIn_r _ [9] (by decide +kernel) (by decide +kernel)
set_option maxRecDepth 20000 in
theorem gX12_aim_X12_in : GoodIn wsX12_aim (va_wsS RX12 70 yX12_in wsX12_in) := goodIn_app (goodIn_of _ (by decide +kernel)) ggX12_aim_X12_in
theorem dX12_aim_0 : decode cX12_aim 0 = .ok (.iload_n 1, 1) := by decide +kernel
theorem dX12_aim_1 : decode cX12_aim 1 = .ok (.invokestatic 165, 3) := by decide +kernel
theorem dX12_aim_4 : decode cX12_aim 4 = .ok (.ifCond .eq 20, 3) := by decide +kernel
theorem dX12_aim_7 : decode cX12_aim 7 = .ok (.iload_n 2, 1) := by decide +kernel
theorem dX12_aim_8 : decode cX12_aim 8 = .ok (.invokestatic 165, 3) := by decide +kernel
theorem dX12_aim_11 : decode cX12_aim 11 = .ok (.ifCond .eq 13, 3) := by decide +kernel
theorem dX12_aim_14 : decode cX12_aim 14 = .ok (.iload_n 3, 1) := by decide +kernel
theorem dX12_aim_15 : decode cX12_aim 15 = .ok (.iconst 1, 1) := by decide +kernel
theorem dX12_aim_16 : decode cX12_aim 16 = .ok (.bipush 50, 2) := by decide +kernel
theorem dX12_aim_18 : decode cX12_aim 18 = .ok (.invokestatic 70, 3) := by decide +kernel
theorem dX12_aim_21 : decode cX12_aim 21 = .ok (.ifCond .ne 6, 3) := by decide +kernel
theorem dX12_aim_24 : decode cX12_aim 24 = .ok (.ldc 78, 2) := by decide +kernel
theorem dX12_aim_26 : decode cX12_aim 26 = .ok (.ireturn, 1) := by decide +kernel
theorem dX12_aim_27 : decode cX12_aim 27 = .ok (.iload_n 2, 1) := by decide +kernel
theorem dX12_aim_28 : decode cX12_aim 28 = .ok (.iload_n 1, 1) := by decide +kernel
theorem dX12_aim_29 : decode cX12_aim 29 = .ok (.isub, 1) := by decide +kernel
theorem dX12_aim_30 : decode cX12_aim 30 = .ok (.sipush 27720, 3) := by decide +kernel
theorem dX12_aim_33 : decode cX12_aim 33 = .ok (.iadd, 1) := by decide +kernel
theorem dX12_aim_34 : decode cX12_aim 34 = .ok (.sipush 27720, 3) := by decide +kernel
theorem dX12_aim_37 : decode cX12_aim 37 = .ok (.irem, 1) := by decide +kernel
theorem dX12_aim_38 : decode cX12_aim 38 = .ok (.istore 4, 2) := by decide +kernel
theorem dX12_aim_40 : decode cX12_aim 40 = .ok (.iconst 1, 1) := by decide +kernel
theorem dX12_aim_41 : decode cX12_aim 41 = .ok (.istore 5, 2) := by decide +kernel
theorem dX12_aim_43 : decode cX12_aim 43 = .ok (.iload 5, 2) := by decide +kernel
theorem dX12_aim_45 : decode cX12_aim 45 = .ok (.sipush 13859, 3) := by decide +kernel
theorem dX12_aim_48 : decode cX12_aim 48 = .ok (.if_icmp .gt 48, 3) := by decide +kernel
theorem dX12_aim_51 : decode cX12_aim 51 = .ok (.iload_n 3, 1) := by decide +kernel
theorem dX12_aim_52 : decode cX12_aim 52 = .ok (.iload 5, 2) := by decide +kernel
theorem dX12_aim_54 : decode cX12_aim 54 = .ok (.imul, 1) := by decide +kernel
theorem dX12_aim_55 : decode cX12_aim 55 = .ok (.sipush 27720, 3) := by decide +kernel
theorem dX12_aim_58 : decode cX12_aim 58 = .ok (.irem, 1) := by decide +kernel
theorem dX12_aim_59 : decode cX12_aim 59 = .ok (.istore 6, 2) := by decide +kernel
theorem dX12_aim_61 : decode cX12_aim 61 = .ok (.iload 6, 2) := by decide +kernel
theorem dX12_aim_63 : decode cX12_aim 63 = .ok (.iload 4, 2) := by decide +kernel
theorem dX12_aim_65 : decode cX12_aim 65 = .ok (.if_icmp .ne 6, 3) := by decide +kernel
theorem dX12_aim_68 : decode cX12_aim 68 = .ok (.iload 5, 2) := by decide +kernel
theorem dX12_aim_70 : decode cX12_aim 70 = .ok (.ireturn, 1) := by decide +kernel
theorem dX12_aim_71 : decode cX12_aim 71 = .ok (.sipush 27720, 3) := by decide +kernel
theorem dX12_aim_74 : decode cX12_aim 74 = .ok (.iload 6, 2) := by decide +kernel
theorem dX12_aim_76 : decode cX12_aim 76 = .ok (.isub, 1) := by decide +kernel
theorem dX12_aim_77 : decode cX12_aim 77 = .ok (.sipush 27720, 3) := by decide +kernel
theorem dX12_aim_80 : decode cX12_aim 80 = .ok (.irem, 1) := by decide +kernel
theorem dX12_aim_81 : decode cX12_aim 81 = .ok (.iload 4, 2) := by decide +kernel
theorem dX12_aim_83 : decode cX12_aim 83 = .ok (.if_icmp .ne 7, 3) := by decide +kernel
theorem dX12_aim_86 : decode cX12_aim 86 = .ok (.iload 5, 2) := by decide +kernel
theorem dX12_aim_88 : decode cX12_aim 88 = .ok (.ineg, 1) := by decide +kernel
theorem dX12_aim_89 : decode cX12_aim 89 = .ok (.ireturn, 1) := by decide +kernel
theorem dX12_aim_90 : decode cX12_aim 90 = .ok (.iinc 5 1, 3) := by decide +kernel
theorem dX12_aim_93 : decode cX12_aim 93 = .ok (.goto (-50), 3) := by decide +kernel
theorem dX12_aim_96 : decode cX12_aim 96 = .ok (.ldc 168, 2) := by decide +kernel
theorem dX12_aim_98 : decode cX12_aim 98 = .ok (.ireturn, 1) := by decide +kernel
set_option maxRecDepth 20000 in
theorem ggX12_widest_X12_in : GoodIn wsX12_widest wsX12_in := goodIn_r _ [7] (by decide +kernel) (by decide +kernel)
set_option maxRecDepth 20000 in
theorem gX12_widest_X12_in : GoodIn wsX12_widest (va_wsS RX12 70 yX12_in wsX12_in) := goodIn_app (goodIn_of _ (by decide +kernel)) ggX12_widest_X12_in
set_option maxRecDepth 20000 in
theorem ggX12_widest_X12_common : GoodIn wsX12_widest wsX12_common := goodIn_r _ [10] (by decide +kernel) (by decide +kernel)
set_option maxRecDepth 20000 in
theorem gX12_widest_X12_common : GoodIn wsX12_widest (va_wsS RX12 162 yX12_common wsX12_common) := goodIn_app (goodIn_of _ (by decide +kernel)) ggX12_widest_X12_common
set_option maxRecDepth 20000 in
theorem ggX12_widest_X12_circle : GoodIn wsX12_widest wsX12_circle := goodIn_r _ [13, 14, 15, 16, 6, 17, 18, 19, 20, 21] (by decide +kernel) (by decide +kernel)
set_option maxRecDepth 20000 in
theorem gX12_widest_X12_circle : GoodIn wsX12_widest (va_wsS RX12 156 yX12_circle wsX12_circle) := goodIn_app (goodIn_of _ (by decide +kernel)) ggX12_widest_X12_circle
theorem dX12_widest_0 : decode cX12_widest 0 = .ok (.iload_n 1, 1) := by decide +kernel
theorem dX12_widest_1 : decode cX12_widest 1 = .ok (.iconst 0, 1) := by decide +kernel
theorem dX12_widest_2 : decode cX12_widest 2 = .ok (.ldc 95, 2) := by decide +kernel
theorem dX12_widest_4 : decode cX12_widest 4 = .ok (.invokestatic 70, 3) := by decide +kernel
theorem dX12_widest_7 : decode cX12_widest 7 = .ok (.ifCond .ne 6, 3) := by decide +kernel
theorem dX12_widest_10 : decode cX12_widest 10 = .ok (.ldc 78, 2) := by decide +kernel
theorem dX12_widest_12 : decode cX12_widest 12 = .ok (.ireturn, 1) := by decide +kernel
theorem dX12_widest_13 : decode cX12_widest 13 = .ok (.ldc 168, 2) := by decide +kernel
theorem dX12_widest_15 : decode cX12_widest 15 = .ok (.istore_n 2, 1) := by decide +kernel
theorem dX12_widest_16 : decode cX12_widest 16 = .ok (.iconst 0, 1) := by decide +kernel
theorem dX12_widest_17 : decode cX12_widest 17 = .ok (.istore_n 3, 1) := by decide +kernel
theorem dX12_widest_18 : decode cX12_widest 18 = .ok (.iconst 1, 1) := by decide +kernel
theorem dX12_widest_19 : decode cX12_widest 19 = .ok (.istore 4, 2) := by decide +kernel
theorem dX12_widest_21 : decode cX12_widest 21 = .ok (.iload 4, 2) := by decide +kernel
theorem dX12_widest_23 : decode cX12_widest 23 = .ok (.sipush 13859, 3) := by decide +kernel
theorem dX12_widest_26 : decode cX12_widest 26 = .ok (.if_icmp .gt 41, 3) := by decide +kernel
theorem dX12_widest_29 : decode cX12_widest 29 = .ok (.sipush 27720, 3) := by decide +kernel
theorem dX12_widest_32 : decode cX12_widest 32 = .ok (.iload 4, 2) := by decide +kernel
theorem dX12_widest_34 : decode cX12_widest 34 = .ok (.invokestatic 162, 3) := by decide +kernel
theorem dX12_widest_37 : decode cX12_widest 37 = .ok (.idiv, 1) := by decide +kernel
theorem dX12_widest_38 : decode cX12_widest 38 = .ok (.istore 5, 2) := by decide +kernel
theorem dX12_widest_40 : decode cX12_widest 40 = .ok (.iload 5, 2) := by decide +kernel
theorem dX12_widest_42 : decode cX12_widest 42 = .ok (.iload_n 3, 1) := by decide +kernel
theorem dX12_widest_43 : decode cX12_widest 43 = .ok (.if_icmp .le 18, 3) := by decide +kernel
theorem dX12_widest_46 : decode cX12_widest 46 = .ok (.iload 4, 2) := by decide +kernel
theorem dX12_widest_48 : decode cX12_widest 48 = .ok (.invokestatic 156, 3) := by decide +kernel
theorem dX12_widest_51 : decode cX12_widest 51 = .ok (.iload_n 1, 1) := by decide +kernel
theorem dX12_widest_52 : decode cX12_widest 52 = .ok (.if_icmp .lt 9, 3) := by decide +kernel
theorem dX12_widest_55 : decode cX12_widest 55 = .ok (.iload 4, 2) := by decide +kernel
theorem dX12_widest_57 : decode cX12_widest 57 = .ok (.istore_n 2, 1) := by decide +kernel
theorem dX12_widest_58 : decode cX12_widest 58 = .ok (.iload 5, 2) := by decide +kernel
theorem dX12_widest_60 : decode cX12_widest 60 = .ok (.istore_n 3, 1) := by decide +kernel
theorem dX12_widest_61 : decode cX12_widest 61 = .ok (.iinc 4 1, 3) := by decide +kernel
theorem dX12_widest_64 : decode cX12_widest 64 = .ok (.goto (-43), 3) := by decide +kernel
theorem dX12_widest_67 : decode cX12_widest 67 = .ok (.iload_n 2, 1) := by decide +kernel
theorem dX12_widest_68 : decode cX12_widest 68 = .ok (.ireturn, 1) := by decide +kernel
theorem dX12_begins_0 : decode cX12_begins 0 = .ok (.aload_n 0, 1) := by decide +kernel
theorem dX12_begins_1 : decode cX12_begins 1 = .ok (.getfield 25, 3) := by decide +kernel
theorem dX12_begins_4 : decode cX12_begins 4 = .ok (.aload_n 0, 1) := by decide +kernel
theorem dX12_begins_5 : decode cX12_begins 5 = .ok (.getfield 169, 3) := by decide +kernel
theorem dX12_begins_8 : decode cX12_begins 8 = .ok (.iload_n 1, 1) := by decide +kernel
theorem dX12_begins_9 : decode cX12_begins 9 = .ok (.iastore, 1) := by decide +kernel
theorem dX12_begins_10 : decode cX12_begins 10 = .ok (.aload_n 0, 1) := by decide +kernel
theorem dX12_begins_11 : decode cX12_begins 11 = .ok (.getfield 28, 3) := by decide +kernel
theorem dX12_begins_14 : decode cX12_begins 14 = .ok (.aload_n 0, 1) := by decide +kernel
theorem dX12_begins_15 : decode cX12_begins 15 = .ok (.getfield 169, 3) := by decide +kernel
theorem dX12_begins_18 : decode cX12_begins 18 = .ok (.lload_n 2, 1) := by decide +kernel
theorem dX12_begins_19 : decode cX12_begins 19 = .ok (.lastore, 1) := by decide +kernel
theorem dX12_begins_20 : decode cX12_begins 20 = .ok (.aload_n 0, 1) := by decide +kernel
theorem dX12_begins_21 : decode cX12_begins 21 = .ok (.getfield 35, 3) := by decide +kernel
theorem dX12_begins_24 : decode cX12_begins 24 = .ok (.aload_n 0, 1) := by decide +kernel
theorem dX12_begins_25 : decode cX12_begins 25 = .ok (.getfield 169, 3) := by decide +kernel
theorem dX12_begins_28 : decode cX12_begins 28 = .ok (.iload 4, 2) := by decide +kernel
theorem dX12_begins_30 : decode cX12_begins 30 = .ok (.iastore, 1) := by decide +kernel
theorem dX12_begins_31 : decode cX12_begins 31 = .ok (.aload_n 0, 1) := by decide +kernel
theorem dX12_begins_32 : decode cX12_begins 32 = .ok (.getfield 32, 3) := by decide +kernel
theorem dX12_begins_35 : decode cX12_begins 35 = .ok (.aload_n 0, 1) := by decide +kernel
theorem dX12_begins_36 : decode cX12_begins 36 = .ok (.getfield 169, 3) := by decide +kernel
theorem dX12_begins_39 : decode cX12_begins 39 = .ok (.iload 5, 2) := by decide +kernel
theorem dX12_begins_41 : decode cX12_begins 41 = .ok (.iastore, 1) := by decide +kernel
theorem dX12_begins_42 : decode cX12_begins 42 = .ok (.aload_n 0, 1) := by decide +kernel
theorem dX12_begins_43 : decode cX12_begins 43 = .ok (.getfield 38, 3) := by decide +kernel
theorem dX12_begins_46 : decode cX12_begins 46 = .ok (.aload_n 0, 1) := by decide +kernel
theorem dX12_begins_47 : decode cX12_begins 47 = .ok (.getfield 169, 3) := by decide +kernel
theorem dX12_begins_50 : decode cX12_begins 50 = .ok (.iconst 1, 1) := by decide +kernel
theorem dX12_begins_51 : decode cX12_begins 51 = .ok (.bastore, 1) := by decide +kernel
theorem dX12_begins_52 : decode cX12_begins 52 = .ok (.aload_n 0, 1) := by decide +kernel
theorem dX12_begins_53 : decode cX12_begins 53 = .ok (.dup, 1) := by decide +kernel
theorem dX12_begins_54 : decode cX12_begins 54 = .ok (.getfield 169, 3) := by decide +kernel
theorem dX12_begins_57 : decode cX12_begins 57 = .ok (.iconst 1, 1) := by decide +kernel
theorem dX12_begins_58 : decode cX12_begins 58 = .ok (.iadd, 1) := by decide +kernel
theorem dX12_begins_59 : decode cX12_begins 59 = .ok (.putfield 169, 3) := by decide +kernel
theorem dX12_begins_62 : decode cX12_begins 62 = .ok (.return_, 1) := by decide +kernel
set_option maxRecDepth 20000 in
theorem ggX12_next_X12_chord : GoodIn wsX12_next wsX12_chord := goodIn_r _ [9, 10, 11, 12, 8, 13, 14, 15, 16, 17] (by decide +kernel) (by decide +kernel)
set_option maxRecDepth 20000 in
theorem gX12_next_X12_chord : GoodIn wsX12_next (va_wsS RX12 150 yX12_chord wsX12_chord) := goodIn_app (goodIn_of _ (by decide +kernel)) ggX12_next_X12_chord
theorem dX12_next_0 : decode cX12_next 0 = .ok (.ldc 168, 2) := by decide +kernel
theorem dX12_next_2 : decode cX12_next 2 = .ok (.istore_n 1, 1) := by decide +kernel
theorem dX12_next_3 : decode cX12_next 3 = .ok (.lconst 0, 1) := by decide +kernel
theorem dX12_next_4 : decode cX12_next 4 = .ok (.lstore_n 2, 1) := by decide +kernel
theorem dX12_next_5 : decode cX12_next 5 = .ok (.iconst 0, 1) := by decide +kernel
theorem dX12_next_6 : decode cX12_next 6 = .ok (.istore 4, 2) := by decide +kernel
theorem dX12_next_8 : decode cX12_next 8 = .ok (.iload 4, 2) := by decide +kernel
theorem dX12_next_10 : decode cX12_next 10 = .ok (.aload_n 0, 1) := by decide +kernel
theorem dX12_next_11 : decode cX12_next 11 = .ok (.getfield 169, 3) := by decide +kernel
theorem dX12_next_14 : decode cX12_next 14 = .ok (.if_icmp .ge 57, 3) := by decide +kernel
theorem dX12_next_17 : decode cX12_next 17 = .ok (.aload_n 0, 1) := by decide +kernel
theorem dX12_next_18 : decode cX12_next 18 = .ok (.getfield 28, 3) := by decide +kernel
theorem dX12_next_21 : decode cX12_next 21 = .ok (.iload 4, 2) := by decide +kernel
theorem dX12_next_23 : decode cX12_next 23 = .ok (.laload, 1) := by decide +kernel
theorem dX12_next_24 : decode cX12_next 24 = .ok (.aload_n 0, 1) := by decide +kernel
theorem dX12_next_25 : decode cX12_next 25 = .ok (.getfield 35, 3) := by decide +kernel
theorem dX12_next_28 : decode cX12_next 28 = .ok (.iload 4, 2) := by decide +kernel
theorem dX12_next_30 : decode cX12_next 30 = .ok (.iaload, 1) := by decide +kernel
theorem dX12_next_31 : decode cX12_next 31 = .ok (.invokestatic 150, 3) := by decide +kernel
theorem dX12_next_34 : decode cX12_next 34 = .ok (.i2l, 1) := by decide +kernel
theorem dX12_next_35 : decode cX12_next 35 = .ok (.ladd, 1) := by decide +kernel
theorem dX12_next_36 : decode cX12_next 36 = .ok (.lstore 5, 2) := by decide +kernel
theorem dX12_next_38 : decode cX12_next 38 = .ok (.aload_n 0, 1) := by decide +kernel
theorem dX12_next_39 : decode cX12_next 39 = .ok (.getfield 38, 3) := by decide +kernel
theorem dX12_next_42 : decode cX12_next 42 = .ok (.iload 4, 2) := by decide +kernel
theorem dX12_next_44 : decode cX12_next 44 = .ok (.baload, 1) := by decide +kernel
theorem dX12_next_45 : decode cX12_next 45 = .ok (.ifCond .eq 20, 3) := by decide +kernel
theorem dX12_next_48 : decode cX12_next 48 = .ok (.iload_n 1, 1) := by decide +kernel
theorem dX12_next_49 : decode cX12_next 49 = .ok (.ifCond .lt 10, 3) := by decide +kernel
theorem dX12_next_52 : decode cX12_next 52 = .ok (.lload 5, 2) := by decide +kernel
theorem dX12_next_54 : decode cX12_next 54 = .ok (.lload_n 2, 1) := by decide +kernel
theorem dX12_next_55 : decode cX12_next 55 = .ok (.lcmp, 1) := by decide +kernel
theorem dX12_next_56 : decode cX12_next 56 = .ok (.ifCond .ge 9, 3) := by decide +kernel
theorem dX12_next_59 : decode cX12_next 59 = .ok (.iload 4, 2) := by decide +kernel
theorem dX12_next_61 : decode cX12_next 61 = .ok (.istore_n 1, 1) := by decide +kernel
theorem dX12_next_62 : decode cX12_next 62 = .ok (.lload 5, 2) := by decide +kernel
theorem dX12_next_64 : decode cX12_next 64 = .ok (.lstore_n 2, 1) := by decide +kernel
theorem dX12_next_65 : decode cX12_next 65 = .ok (.iinc 4 1, 3) := by decide +kernel
theorem dX12_next_68 : decode cX12_next 68 = .ok (.goto (-60), 3) := by decide +kernel
theorem dX12_next_71 : decode cX12_next 71 = .ok (.iload_n 1, 1) := by decide +kernel
theorem dX12_next_72 : decode cX12_next 72 = .ok (.ireturn, 1) := by decide +kernel
set_option maxRecDepth 20000 in
theorem ggX12_tilted_X12_isStep : GoodIn wsX12_tilted wsX12_isStep := goodIn_r _ [4, 5, 6, 3, 7] (by decide +kernel) (by decide +kernel)
set_option maxRecDepth 20000 in
theorem gX12_tilted_X12_isStep : GoodIn wsX12_tilted (va_wsS RX12 147 yX12_isStep wsX12_isStep) := goodIn_app (goodIn_of _ (by decide +kernel)) ggX12_tilted_X12_isStep
theorem dX12_tilted_0 : decode cX12_tilted 0 = .ok (.iload_n 0, 1) := by decide +kernel
theorem dX12_tilted_1 : decode cX12_tilted 1 = .ok (.ifCond .le 9, 3) := by decide +kernel
theorem dX12_tilted_4 : decode cX12_tilted 4 = .ok (.iload_n 0, 1) := by decide +kernel
theorem dX12_tilted_5 : decode cX12_tilted 5 = .ok (.iload_n 1, 1) := by decide +kernel
theorem dX12_tilted_6 : decode cX12_tilted 6 = .ok (.iadd, 1) := by decide +kernel
theorem dX12_tilted_7 : decode cX12_tilted 7 = .ok (.goto 6, 3) := by decide +kernel
theorem dX12_tilted_10 : decode cX12_tilted 10 = .ok (.iload_n 0, 1) := by decide +kernel
theorem dX12_tilted_11 : decode cX12_tilted 11 = .ok (.iload_n 1, 1) := by decide +kernel
theorem dX12_tilted_12 : decode cX12_tilted 12 = .ok (.isub, 1) := by decide +kernel
theorem dX12_tilted_13 : decode cX12_tilted 13 = .ok (.istore_n 2, 1) := by decide +kernel
theorem dX12_tilted_14 : decode cX12_tilted 14 = .ok (.iload_n 2, 1) := by decide +kernel
theorem dX12_tilted_15 : decode cX12_tilted 15 = .ok (.invokestatic 147, 3) := by decide +kernel
theorem dX12_tilted_18 : decode cX12_tilted 18 = .ok (.ifCond .eq 28, 3) := by decide +kernel
theorem dX12_tilted_21 : decode cX12_tilted 21 = .ok (.iload_n 2, 1) := by decide +kernel
theorem dX12_tilted_22 : decode cX12_tilted 22 = .ok (.ifCond .le 7, 3) := by decide +kernel
theorem dX12_tilted_25 : decode cX12_tilted 25 = .ok (.iconst 1, 1) := by decide +kernel
theorem dX12_tilted_26 : decode cX12_tilted 26 = .ok (.goto 4, 3) := by decide +kernel
theorem dX12_tilted_29 : decode cX12_tilted 29 = .ok (.iconst 0, 1) := by decide +kernel
theorem dX12_tilted_30 : decode cX12_tilted 30 = .ok (.iload_n 0, 1) := by decide +kernel
theorem dX12_tilted_31 : decode cX12_tilted 31 = .ok (.ifCond .le 7, 3) := by decide +kernel
theorem dX12_tilted_34 : decode cX12_tilted 34 = .ok (.iconst 1, 1) := by decide +kernel
theorem dX12_tilted_35 : decode cX12_tilted 35 = .ok (.goto 4, 3) := by decide +kernel
theorem dX12_tilted_38 : decode cX12_tilted 38 = .ok (.iconst 0, 1) := by decide +kernel
theorem dX12_tilted_39 : decode cX12_tilted 39 = .ok (.if_icmp .ne 7, 3) := by decide +kernel
theorem dX12_tilted_42 : decode cX12_tilted 42 = .ok (.iload_n 2, 1) := by decide +kernel
theorem dX12_tilted_43 : decode cX12_tilted 43 = .ok (.goto 4, 3) := by decide +kernel
theorem dX12_tilted_46 : decode cX12_tilted 46 = .ok (.iconst 0, 1) := by decide +kernel
theorem dX12_tilted_47 : decode cX12_tilted 47 = .ok (.ireturn, 1) := by decide +kernel
theorem dX12_hears_0 : decode cX12_hears 0 = .ok (.aload_n 0, 1) := by decide +kernel
theorem dX12_hears_1 : decode cX12_hears 1 = .ok (.getfield 45, 3) := by decide +kernel
theorem dX12_hears_4 : decode cX12_hears 4 = .ok (.aload_n 0, 1) := by decide +kernel
theorem dX12_hears_5 : decode cX12_hears 5 = .ok (.getfield 172, 3) := by decide +kernel
theorem dX12_hears_8 : decode cX12_hears 8 = .ok (.iconst 1, 1) := by decide +kernel
theorem dX12_hears_9 : decode cX12_hears 9 = .ok (.isub, 1) := by decide +kernel
theorem dX12_hears_10 : decode cX12_hears 10 = .ok (.iconst 1, 1) := by decide +kernel
theorem dX12_hears_11 : decode cX12_hears 11 = .ok (.bastore, 1) := by decide +kernel
theorem dX12_hears_12 : decode cX12_hears 12 = .ok (.aload_n 0, 1) := by decide +kernel
theorem dX12_hears_13 : decode cX12_hears 13 = .ok (.getfield 54, 3) := by decide +kernel
theorem dX12_hears_16 : decode cX12_hears 16 = .ok (.iload_n 1, 1) := by decide +kernel
theorem dX12_hears_17 : decode cX12_hears 17 = .ok (.aload_n 0, 1) := by decide +kernel
theorem dX12_hears_18 : decode cX12_hears 18 = .ok (.getfield 48, 3) := by decide +kernel
theorem dX12_hears_21 : decode cX12_hears 21 = .ok (.iload_n 1, 1) := by decide +kernel
theorem dX12_hears_22 : decode cX12_hears 22 = .ok (.iaload, 1) := by decide +kernel
theorem dX12_hears_23 : decode cX12_hears 23 = .ok (.ifCond .ne 12, 3) := by decide +kernel
theorem dX12_hears_26 : decode cX12_hears 26 = .ok (.aload_n 0, 1) := by decide +kernel
theorem dX12_hears_27 : decode cX12_hears 27 = .ok (.getfield 28, 3) := by decide +kernel
theorem dX12_hears_30 : decode cX12_hears 30 = .ok (.iload_n 2, 1) := by decide +kernel
theorem dX12_hears_31 : decode cX12_hears 31 = .ok (.laload, 1) := by decide +kernel
theorem dX12_hears_32 : decode cX12_hears 32 = .ok (.goto 9, 3) := by decide +kernel
theorem dX12_hears_35 : decode cX12_hears 35 = .ok (.aload_n 0, 1) := by decide +kernel
theorem dX12_hears_36 : decode cX12_hears 36 = .ok (.getfield 54, 3) := by decide +kernel
theorem dX12_hears_39 : decode cX12_hears 39 = .ok (.iload_n 1, 1) := by decide +kernel
theorem dX12_hears_40 : decode cX12_hears 40 = .ok (.laload, 1) := by decide +kernel
theorem dX12_hears_41 : decode cX12_hears 41 = .ok (.lastore, 1) := by decide +kernel
theorem dX12_hears_42 : decode cX12_hears 42 = .ok (.aload_n 0, 1) := by decide +kernel
theorem dX12_hears_43 : decode cX12_hears 43 = .ok (.getfield 48, 3) := by decide +kernel
theorem dX12_hears_46 : decode cX12_hears 46 = .ok (.iload_n 1, 1) := by decide +kernel
theorem dX12_hears_47 : decode cX12_hears 47 = .ok (.dup2, 1) := by decide +kernel
theorem dX12_hears_48 : decode cX12_hears 48 = .ok (.iaload, 1) := by decide +kernel
theorem dX12_hears_49 : decode cX12_hears 49 = .ok (.iconst 1, 1) := by decide +kernel
theorem dX12_hears_50 : decode cX12_hears 50 = .ok (.iadd, 1) := by decide +kernel
theorem dX12_hears_51 : decode cX12_hears 51 = .ok (.iastore, 1) := by decide +kernel
theorem dX12_hears_52 : decode cX12_hears 52 = .ok (.aload_n 0, 1) := by decide +kernel
theorem dX12_hears_53 : decode cX12_hears 53 = .ok (.getfield 51, 3) := by decide +kernel
theorem dX12_hears_56 : decode cX12_hears 56 = .ok (.iload_n 1, 1) := by decide +kernel
theorem dX12_hears_57 : decode cX12_hears 57 = .ok (.dup2, 1) := by decide +kernel
theorem dX12_hears_58 : decode cX12_hears 58 = .ok (.laload, 1) := by decide +kernel
theorem dX12_hears_59 : decode cX12_hears 59 = .ok (.aload_n 0, 1) := by decide +kernel
theorem dX12_hears_60 : decode cX12_hears 60 = .ok (.getfield 32, 3) := by decide +kernel
theorem dX12_hears_63 : decode cX12_hears 63 = .ok (.iload_n 2, 1) := by decide +kernel
theorem dX12_hears_64 : decode cX12_hears 64 = .ok (.iaload, 1) := by decide +kernel
theorem dX12_hears_65 : decode cX12_hears 65 = .ok (.i2l, 1) := by decide +kernel
theorem dX12_hears_66 : decode cX12_hears 66 = .ok (.ladd, 1) := by decide +kernel
theorem dX12_hears_67 : decode cX12_hears 67 = .ok (.lastore, 1) := by decide +kernel
theorem dX12_hears_68 : decode cX12_hears 68 = .ok (.aload_n 0, 1) := by decide +kernel
theorem dX12_hears_69 : decode cX12_hears 69 = .ok (.getfield 57, 3) := by decide +kernel
theorem dX12_hears_72 : decode cX12_hears 72 = .ok (.iload_n 1, 1) := by decide +kernel
theorem dX12_hears_73 : decode cX12_hears 73 = .ok (.aload_n 0, 1) := by decide +kernel
theorem dX12_hears_74 : decode cX12_hears 74 = .ok (.getfield 32, 3) := by decide +kernel
theorem dX12_hears_77 : decode cX12_hears 77 = .ok (.iload_n 2, 1) := by decide +kernel
theorem dX12_hears_78 : decode cX12_hears 78 = .ok (.iaload, 1) := by decide +kernel
theorem dX12_hears_79 : decode cX12_hears 79 = .ok (.aload_n 0, 1) := by decide +kernel
theorem dX12_hears_80 : decode cX12_hears 80 = .ok (.getfield 57, 3) := by decide +kernel
theorem dX12_hears_83 : decode cX12_hears 83 = .ok (.iload_n 1, 1) := by decide +kernel
theorem dX12_hears_84 : decode cX12_hears 84 = .ok (.iaload, 1) := by decide +kernel
theorem dX12_hears_85 : decode cX12_hears 85 = .ok (.if_icmp .le 12, 3) := by decide +kernel
theorem dX12_hears_88 : decode cX12_hears 88 = .ok (.aload_n 0, 1) := by decide +kernel
theorem dX12_hears_89 : decode cX12_hears 89 = .ok (.getfield 32, 3) := by decide +kernel
theorem dX12_hears_92 : decode cX12_hears 92 = .ok (.iload_n 2, 1) := by decide +kernel
theorem dX12_hears_93 : decode cX12_hears 93 = .ok (.iaload, 1) := by decide +kernel
theorem dX12_hears_94 : decode cX12_hears 94 = .ok (.goto 9, 3) := by decide +kernel
theorem dX12_hears_97 : decode cX12_hears 97 = .ok (.aload_n 0, 1) := by decide +kernel
theorem dX12_hears_98 : decode cX12_hears 98 = .ok (.getfield 57, 3) := by decide +kernel
theorem dX12_hears_101 : decode cX12_hears 101 = .ok (.iload_n 1, 1) := by decide +kernel
theorem dX12_hears_102 : decode cX12_hears 102 = .ok (.iaload, 1) := by decide +kernel
theorem dX12_hears_103 : decode cX12_hears 103 = .ok (.iastore, 1) := by decide +kernel
theorem dX12_hears_104 : decode cX12_hears 104 = .ok (.return_, 1) := by decide +kernel
set_option maxRecDepth 20000 in
theorem ggX12_meets_X12_tilted : GoodIn wsX12_meets wsX12_tilted := goodIn_r _ [12, 13, 14, 11, 15, 16, 17, 18] (by decide +kernel) (by decide +kernel)
set_option maxRecDepth 20000 in
theorem gX12_meets_X12_tilted : GoodIn wsX12_meets (va_wsS RX12 177 yX12_tilted wsX12_tilted) := goodIn_app (goodIn_of _ (by decide +kernel)) ggX12_meets_X12_tilted
set_option maxRecDepth 20000 in
theorem ggX12_meets_X12_begins : GoodIn wsX12_meets wsX12_begins := goodIn_r _ [22, 7, 6, 8, 4, 2, 5, 33, 34, 35, 36, 37, 38, 39, 40, 41, 42, 43, 44, 45, 46, 47, 48, 49, 50, 51, 52, 53, 54, 55, 56, 57, 58, 59] (by decide +kernel) (by decide +kernel)
set_option maxRecDepth 20000 in
theorem gX12_meets_X12_begins : GoodIn wsX12_meets (wsV RX12 180 RX12 yX12_begins wsX12_begins) := goodIn_app (goodIn_of _ (by decide +kernel)) ggX12_meets_X12_begins
set_option maxRecDepth 20000 in
theorem ggX12_meets_X12_hears : GoodIn wsX12_meets wsX12_hears := goodIn_r _ [26, 27, 28, 29, 30, 8, 31, 2, 32, 33, 34, 35, 36, 37, 38, 39, 40, 41, 42, 43, 44, 45, 46, 47, 48, 49, 50, 51, 52, 53, 54, 55, 56, 57, 58, 59] (by decide +kernel) (by decide +kernel)
set_option maxRecDepth 20000 in
theorem gX12_meets_X12_hears : GoodIn wsX12_meets (wsV RX12 184 RX12 yX12_hears wsX12_hears) := goodIn_app (goodIn_of _ (by decide +kernel)) ggX12_meets_X12_hears
theorem dX12_meets_0 : decode cX12_meets 0 = .ok (.aload_n 0, 1) := by decide +kernel
theorem dX12_meets_1 : decode cX12_meets 1 = .ok (.getfield 7, 3) := by decide +kernel
theorem dX12_meets_4 : decode cX12_meets 4 = .ok (.iconst 4, 1) := by decide +kernel
theorem dX12_meets_5 : decode cX12_meets 5 = .ok (.iconst 4, 1) := by decide +kernel
theorem dX12_meets_6 : decode cX12_meets 6 = .ok (.iload_n 1, 1) := by decide +kernel
theorem dX12_meets_7 : decode cX12_meets 7 = .ok (.imul, 1) := by decide +kernel
theorem dX12_meets_8 : decode cX12_meets 8 = .ok (.iadd, 1) := by decide +kernel
theorem dX12_meets_9 : decode cX12_meets 9 = .ok (.iconst 3, 1) := by decide +kernel
theorem dX12_meets_10 : decode cX12_meets 10 = .ok (.iadd, 1) := by decide +kernel
theorem dX12_meets_11 : decode cX12_meets 11 = .ok (.iaload, 1) := by decide +kernel
theorem dX12_meets_12 : decode cX12_meets 12 = .ok (.istore_n 3, 1) := by decide +kernel
theorem dX12_meets_13 : decode cX12_meets 13 = .ok (.aload_n 0, 1) := by decide +kernel
theorem dX12_meets_14 : decode cX12_meets 14 = .ok (.getfield 7, 3) := by decide +kernel
theorem dX12_meets_17 : decode cX12_meets 17 = .ok (.iconst 4, 1) := by decide +kernel
theorem dX12_meets_18 : decode cX12_meets 18 = .ok (.iconst 4, 1) := by decide +kernel
theorem dX12_meets_19 : decode cX12_meets 19 = .ok (.iload_n 1, 1) := by decide +kernel
theorem dX12_meets_20 : decode cX12_meets 20 = .ok (.imul, 1) := by decide +kernel
theorem dX12_meets_21 : decode cX12_meets 21 = .ok (.iadd, 1) := by decide +kernel
theorem dX12_meets_22 : decode cX12_meets 22 = .ok (.iaload, 1) := by decide +kernel
theorem dX12_meets_23 : decode cX12_meets 23 = .ok (.tableswitch 219 0 3 #[29, 57, 73, 134], 29) := by decide +kernel
theorem dX12_meets_52 : decode cX12_meets 52 = .ok (.aload_n 0, 1) := by decide +kernel
theorem dX12_meets_53 : decode cX12_meets 53 = .ok (.getfield 32, 3) := by decide +kernel
theorem dX12_meets_56 : decode cX12_meets 56 = .ok (.iload_n 2, 1) := by decide +kernel
theorem dX12_meets_57 : decode cX12_meets 57 = .ok (.aload_n 0, 1) := by decide +kernel
theorem dX12_meets_58 : decode cX12_meets 58 = .ok (.getfield 32, 3) := by decide +kernel
theorem dX12_meets_61 : decode cX12_meets 61 = .ok (.iload_n 2, 1) := by decide +kernel
theorem dX12_meets_62 : decode cX12_meets 62 = .ok (.iaload, 1) := by decide +kernel
theorem dX12_meets_63 : decode cX12_meets 63 = .ok (.i2l, 1) := by decide +kernel
theorem dX12_meets_64 : decode cX12_meets 64 = .ok (.sipush 1000, 3) := by decide +kernel
theorem dX12_meets_67 : decode cX12_meets 67 = .ok (.iload_n 3, 1) := by decide +kernel
theorem dX12_meets_68 : decode cX12_meets 68 = .ok (.isub, 1) := by decide +kernel
theorem dX12_meets_69 : decode cX12_meets 69 = .ok (.i2l, 1) := by decide +kernel
theorem dX12_meets_70 : decode cX12_meets 70 = .ok (.lmul, 1) := by decide +kernel
theorem dX12_meets_71 : decode cX12_meets 71 = .ok (.ldc2_w 175, 3) := by decide +kernel
theorem dX12_meets_74 : decode cX12_meets 74 = .ok (.ldiv, 1) := by decide +kernel
theorem dX12_meets_75 : decode cX12_meets 75 = .ok (.l2i, 1) := by decide +kernel
theorem dX12_meets_76 : decode cX12_meets 76 = .ok (.iastore, 1) := by decide +kernel
theorem dX12_meets_77 : decode cX12_meets 77 = .ok (.goto 171, 3) := by decide +kernel
theorem dX12_meets_80 : decode cX12_meets 80 = .ok (.aload_n 0, 1) := by decide +kernel
theorem dX12_meets_81 : decode cX12_meets 81 = .ok (.getfield 35, 3) := by decide +kernel
theorem dX12_meets_84 : decode cX12_meets 84 = .ok (.iload_n 2, 1) := by decide +kernel
theorem dX12_meets_85 : decode cX12_meets 85 = .ok (.aload_n 0, 1) := by decide +kernel
theorem dX12_meets_86 : decode cX12_meets 86 = .ok (.getfield 35, 3) := by decide +kernel
theorem dX12_meets_89 : decode cX12_meets 89 = .ok (.iload_n 2, 1) := by decide +kernel
theorem dX12_meets_90 : decode cX12_meets 90 = .ok (.iaload, 1) := by decide +kernel
theorem dX12_meets_91 : decode cX12_meets 91 = .ok (.ineg, 1) := by decide +kernel
theorem dX12_meets_92 : decode cX12_meets 92 = .ok (.iastore, 1) := by decide +kernel
theorem dX12_meets_93 : decode cX12_meets 93 = .ok (.goto 155, 3) := by decide +kernel
theorem dX12_meets_96 : decode cX12_meets 96 = .ok (.aload_n 0, 1) := by decide +kernel
theorem dX12_meets_97 : decode cX12_meets 97 = .ok (.getfield 38, 3) := by decide +kernel
theorem dX12_meets_100 : decode cX12_meets 100 = .ok (.iload_n 2, 1) := by decide +kernel
theorem dX12_meets_101 : decode cX12_meets 101 = .ok (.aload_n 0, 1) := by decide +kernel
theorem dX12_meets_102 : decode cX12_meets 102 = .ok (.getfield 35, 3) := by decide +kernel
theorem dX12_meets_105 : decode cX12_meets 105 = .ok (.iload_n 2, 1) := by decide +kernel
theorem dX12_meets_106 : decode cX12_meets 106 = .ok (.iaload, 1) := by decide +kernel
theorem dX12_meets_107 : decode cX12_meets 107 = .ok (.iload_n 3, 1) := by decide +kernel
theorem dX12_meets_108 : decode cX12_meets 108 = .ok (.invokestatic 177, 3) := by decide +kernel
theorem dX12_meets_111 : decode cX12_meets 111 = .ok (.ifCond .eq 7, 3) := by decide +kernel
theorem dX12_meets_114 : decode cX12_meets 114 = .ok (.iconst 1, 1) := by decide +kernel
theorem dX12_meets_115 : decode cX12_meets 115 = .ok (.goto 4, 3) := by decide +kernel
theorem dX12_meets_118 : decode cX12_meets 118 = .ok (.iconst 0, 1) := by decide +kernel
theorem dX12_meets_119 : decode cX12_meets 119 = .ok (.bastore, 1) := by decide +kernel
theorem dX12_meets_120 : decode cX12_meets 120 = .ok (.aload_n 0, 1) := by decide +kernel
theorem dX12_meets_121 : decode cX12_meets 121 = .ok (.getfield 35, 3) := by decide +kernel
theorem dX12_meets_124 : decode cX12_meets 124 = .ok (.iload_n 2, 1) := by decide +kernel
theorem dX12_meets_125 : decode cX12_meets 125 = .ok (.aload_n 0, 1) := by decide +kernel
theorem dX12_meets_126 : decode cX12_meets 126 = .ok (.getfield 38, 3) := by decide +kernel
theorem dX12_meets_129 : decode cX12_meets 129 = .ok (.iload_n 2, 1) := by decide +kernel
theorem dX12_meets_130 : decode cX12_meets 130 = .ok (.baload, 1) := by decide +kernel
theorem dX12_meets_131 : decode cX12_meets 131 = .ok (.ifCond .eq 16, 3) := by decide +kernel
theorem dX12_meets_134 : decode cX12_meets 134 = .ok (.aload_n 0, 1) := by decide +kernel
theorem dX12_meets_135 : decode cX12_meets 135 = .ok (.getfield 35, 3) := by decide +kernel
theorem dX12_meets_138 : decode cX12_meets 138 = .ok (.iload_n 2, 1) := by decide +kernel
theorem dX12_meets_139 : decode cX12_meets 139 = .ok (.iaload, 1) := by decide +kernel
theorem dX12_meets_140 : decode cX12_meets 140 = .ok (.iload_n 3, 1) := by decide +kernel
theorem dX12_meets_141 : decode cX12_meets 141 = .ok (.invokestatic 177, 3) := by decide +kernel
theorem dX12_meets_144 : decode cX12_meets 144 = .ok (.goto 9, 3) := by decide +kernel
theorem dX12_meets_147 : decode cX12_meets 147 = .ok (.aload_n 0, 1) := by decide +kernel
theorem dX12_meets_148 : decode cX12_meets 148 = .ok (.getfield 35, 3) := by decide +kernel
theorem dX12_meets_151 : decode cX12_meets 151 = .ok (.iload_n 2, 1) := by decide +kernel
theorem dX12_meets_152 : decode cX12_meets 152 = .ok (.iaload, 1) := by decide +kernel
theorem dX12_meets_153 : decode cX12_meets 153 = .ok (.iastore, 1) := by decide +kernel
theorem dX12_meets_154 : decode cX12_meets 154 = .ok (.goto 94, 3) := by decide +kernel
theorem dX12_meets_157 : decode cX12_meets 157 = .ok (.aload_n 0, 1) := by decide +kernel
theorem dX12_meets_158 : decode cX12_meets 158 = .ok (.getfield 32, 3) := by decide +kernel
theorem dX12_meets_161 : decode cX12_meets 161 = .ok (.iload_n 2, 1) := by decide +kernel
theorem dX12_meets_162 : decode cX12_meets 162 = .ok (.iaload, 1) := by decide +kernel
theorem dX12_meets_163 : decode cX12_meets 163 = .ok (.iconst 2, 1) := by decide +kernel
theorem dX12_meets_164 : decode cX12_meets 164 = .ok (.idiv, 1) := by decide +kernel
theorem dX12_meets_165 : decode cX12_meets 165 = .ok (.istore 4, 2) := by decide +kernel
theorem dX12_meets_167 : decode cX12_meets 167 = .ok (.aload_n 0, 1) := by decide +kernel
theorem dX12_meets_168 : decode cX12_meets 168 = .ok (.getfield 32, 3) := by decide +kernel
theorem dX12_meets_171 : decode cX12_meets 171 = .ok (.iload_n 2, 1) := by decide +kernel
theorem dX12_meets_172 : decode cX12_meets 172 = .ok (.dup2, 1) := by decide +kernel
theorem dX12_meets_173 : decode cX12_meets 173 = .ok (.iaload, 1) := by decide +kernel
theorem dX12_meets_174 : decode cX12_meets 174 = .ok (.iload 4, 2) := by decide +kernel
theorem dX12_meets_176 : decode cX12_meets 176 = .ok (.isub, 1) := by decide +kernel
theorem dX12_meets_177 : decode cX12_meets 177 = .ok (.iastore, 1) := by decide +kernel
theorem dX12_meets_178 : decode cX12_meets 178 = .ok (.aload_n 0, 1) := by decide +kernel
theorem dX12_meets_179 : decode cX12_meets 179 = .ok (.getfield 35, 3) := by decide +kernel
theorem dX12_meets_182 : decode cX12_meets 182 = .ok (.iload_n 2, 1) := by decide +kernel
theorem dX12_meets_183 : decode cX12_meets 183 = .ok (.iaload, 1) := by decide +kernel
theorem dX12_meets_184 : decode cX12_meets 184 = .ok (.iload_n 3, 1) := by decide +kernel
theorem dX12_meets_185 : decode cX12_meets 185 = .ok (.invokestatic 177, 3) := by decide +kernel
theorem dX12_meets_188 : decode cX12_meets 188 = .ok (.ifCond .eq 60, 3) := by decide +kernel
theorem dX12_meets_191 : decode cX12_meets 191 = .ok (.iload 4, 2) := by decide +kernel
theorem dX12_meets_193 : decode cX12_meets 193 = .ok (.aload_n 0, 1) := by decide +kernel
theorem dX12_meets_194 : decode cX12_meets 194 = .ok (.getfield 7, 3) := by decide +kernel
theorem dX12_meets_197 : decode cX12_meets 197 = .ok (.iconst 2, 1) := by decide +kernel
theorem dX12_meets_198 : decode cX12_meets 198 = .ok (.iaload, 1) := by decide +kernel
theorem dX12_meets_199 : decode cX12_meets 199 = .ok (.if_icmp .lt 49, 3) := by decide +kernel
theorem dX12_meets_202 : decode cX12_meets 202 = .ok (.aload_n 0, 1) := by decide +kernel
theorem dX12_meets_203 : decode cX12_meets 203 = .ok (.getfield 169, 3) := by decide +kernel
theorem dX12_meets_206 : decode cX12_meets 206 = .ok (.bipush 100, 2) := by decide +kernel
theorem dX12_meets_208 : decode cX12_meets 208 = .ok (.if_icmp .ge 40, 3) := by decide +kernel
theorem dX12_meets_211 : decode cX12_meets 211 = .ok (.aload_n 0, 1) := by decide +kernel
theorem dX12_meets_212 : decode cX12_meets 212 = .ok (.aload_n 0, 1) := by decide +kernel
theorem dX12_meets_213 : decode cX12_meets 213 = .ok (.getfield 25, 3) := by decide +kernel
theorem dX12_meets_216 : decode cX12_meets 216 = .ok (.iload_n 2, 1) := by decide +kernel
theorem dX12_meets_217 : decode cX12_meets 217 = .ok (.iaload, 1) := by decide +kernel
theorem dX12_meets_218 : decode cX12_meets 218 = .ok (.aload_n 0, 1) := by decide +kernel
theorem dX12_meets_219 : decode cX12_meets 219 = .ok (.getfield 28, 3) := by decide +kernel
theorem dX12_meets_222 : decode cX12_meets 222 = .ok (.iload_n 2, 1) := by decide +kernel
theorem dX12_meets_223 : decode cX12_meets 223 = .ok (.laload, 1) := by decide +kernel
theorem dX12_meets_224 : decode cX12_meets 224 = .ok (.aload_n 0, 1) := by decide +kernel
theorem dX12_meets_225 : decode cX12_meets 225 = .ok (.getfield 35, 3) := by decide +kernel
theorem dX12_meets_228 : decode cX12_meets 228 = .ok (.iload_n 2, 1) := by decide +kernel
theorem dX12_meets_229 : decode cX12_meets 229 = .ok (.iaload, 1) := by decide +kernel
theorem dX12_meets_230 : decode cX12_meets 230 = .ok (.iload_n 3, 1) := by decide +kernel
theorem dX12_meets_231 : decode cX12_meets 231 = .ok (.invokestatic 177, 3) := by decide +kernel
theorem dX12_meets_234 : decode cX12_meets 234 = .ok (.iload 4, 2) := by decide +kernel
theorem dX12_meets_236 : decode cX12_meets 236 = .ok (.invokevirtual 180, 3) := by decide +kernel
theorem dX12_meets_239 : decode cX12_meets 239 = .ok (.goto 9, 3) := by decide +kernel
theorem dX12_meets_242 : decode cX12_meets 242 = .ok (.aload_n 0, 1) := by decide +kernel
theorem dX12_meets_243 : decode cX12_meets 243 = .ok (.iload_n 1, 1) := by decide +kernel
theorem dX12_meets_244 : decode cX12_meets 244 = .ok (.iload_n 2, 1) := by decide +kernel
theorem dX12_meets_245 : decode cX12_meets 245 = .ok (.invokevirtual 184, 3) := by decide +kernel
theorem dX12_meets_248 : decode cX12_meets 248 = .ok (.return_, 1) := by decide +kernel
theorem dX12_covers_0 : decode cX12_covers 0 = .ok (.iload_n 2, 1) := by decide +kernel
theorem dX12_covers_1 : decode cX12_covers 1 = .ok (.aload_n 0, 1) := by decide +kernel
theorem dX12_covers_2 : decode cX12_covers 2 = .ok (.getfield 7, 3) := by decide +kernel
theorem dX12_covers_5 : decode cX12_covers 5 = .ok (.iconst 4, 1) := by decide +kernel
theorem dX12_covers_6 : decode cX12_covers 6 = .ok (.iconst 4, 1) := by decide +kernel
theorem dX12_covers_7 : decode cX12_covers 7 = .ok (.iload_n 1, 1) := by decide +kernel
theorem dX12_covers_8 : decode cX12_covers 8 = .ok (.imul, 1) := by decide +kernel
theorem dX12_covers_9 : decode cX12_covers 9 = .ok (.iadd, 1) := by decide +kernel
theorem dX12_covers_10 : decode cX12_covers 10 = .ok (.iconst 1, 1) := by decide +kernel
theorem dX12_covers_11 : decode cX12_covers 11 = .ok (.iadd, 1) := by decide +kernel
theorem dX12_covers_12 : decode cX12_covers 12 = .ok (.iaload, 1) := by decide +kernel
theorem dX12_covers_13 : decode cX12_covers 13 = .ok (.isub, 1) := by decide +kernel
theorem dX12_covers_14 : decode cX12_covers 14 = .ok (.sipush 27720, 3) := by decide +kernel
theorem dX12_covers_17 : decode cX12_covers 17 = .ok (.iadd, 1) := by decide +kernel
theorem dX12_covers_18 : decode cX12_covers 18 = .ok (.sipush 27720, 3) := by decide +kernel
theorem dX12_covers_21 : decode cX12_covers 21 = .ok (.irem, 1) := by decide +kernel
theorem dX12_covers_22 : decode cX12_covers 22 = .ok (.aload_n 0, 1) := by decide +kernel
theorem dX12_covers_23 : decode cX12_covers 23 = .ok (.getfield 7, 3) := by decide +kernel
theorem dX12_covers_26 : decode cX12_covers 26 = .ok (.iconst 4, 1) := by decide +kernel
theorem dX12_covers_27 : decode cX12_covers 27 = .ok (.iconst 4, 1) := by decide +kernel
theorem dX12_covers_28 : decode cX12_covers 28 = .ok (.iload_n 1, 1) := by decide +kernel
theorem dX12_covers_29 : decode cX12_covers 29 = .ok (.imul, 1) := by decide +kernel
theorem dX12_covers_30 : decode cX12_covers 30 = .ok (.iadd, 1) := by decide +kernel
theorem dX12_covers_31 : decode cX12_covers 31 = .ok (.iconst 2, 1) := by decide +kernel
theorem dX12_covers_32 : decode cX12_covers 32 = .ok (.iadd, 1) := by decide +kernel
theorem dX12_covers_33 : decode cX12_covers 33 = .ok (.iaload, 1) := by decide +kernel
theorem dX12_covers_34 : decode cX12_covers 34 = .ok (.if_icmp .ge 7, 3) := by decide +kernel
theorem dX12_covers_37 : decode cX12_covers 37 = .ok (.iconst 1, 1) := by decide +kernel
theorem dX12_covers_38 : decode cX12_covers 38 = .ok (.goto 4, 3) := by decide +kernel
theorem dX12_covers_41 : decode cX12_covers 41 = .ok (.iconst 0, 1) := by decide +kernel
theorem dX12_covers_42 : decode cX12_covers 42 = .ok (.ireturn, 1) := by decide +kernel
set_option maxRecDepth 20000 in
theorem ggX12_goes_X12_chord : GoodIn wsX12_goes wsX12_chord := goodIn_r _ [14, 15, 16, 17, 13, 18, 19, 20, 21, 22] (by decide +kernel) (by decide +kernel)
set_option maxRecDepth 20000 in
theorem gX12_goes_X12_chord : GoodIn wsX12_goes (va_wsS RX12 150 yX12_chord wsX12_chord) := goodIn_app (goodIn_of _ (by decide +kernel)) ggX12_goes_X12_chord
set_option maxRecDepth 20000 in
theorem ggX12_goes_X12_covers : GoodIn wsX12_goes wsX12_covers := goodIn_r _ [26, 8, 53, 54, 55, 56, 57, 58, 59, 60, 61, 62, 63, 64, 65, 66, 67, 68, 69, 70, 71, 72, 73, 74, 75, 76, 77, 78, 79] (by decide +kernel) (by decide +kernel)
set_option maxRecDepth 20000 in
theorem gX12_goes_X12_covers : GoodIn wsX12_goes (wsV RX12 188 RX12 yX12_covers wsX12_covers) := goodIn_app (goodIn_of _ (by decide +kernel)) ggX12_goes_X12_covers
set_option maxRecDepth 20000 in
theorem ggX12_goes_X12_meets : GoodIn wsX12_goes wsX12_meets := goodIn_r _ [30, 8, 6, 9, 2, 10, 31, 3, 1, 32, 33, 13, 34, 35, 36, 37, 38, 39, 40, 41, 42, 43, 44, 45, 46, 47, 48, 7, 4, 49, 50, 51, 52, 53, 54, 55, 56, 57, 58, 59, 60, 61, 62, 63, 64, 65, 66, 67, 68, 69, 70, 71, 72, 73, 74, 75, 76, 77, 78, 79] (by decide +kernel) (by decide +kernel)
set_option maxRecDepth 20000 in
theorem gX12_goes_X12_meets : GoodIn wsX12_goes (wsV RX12 191 RX12 yX12_meets wsX12_meets) := goodIn_app (goodIn_of _ (by decide +kernel)) ggX12_goes_X12_meets
theorem dX12_goes_0 : decode cX12_goes 0 = .ok (.aload_n 0, 1) := by decide +kernel
theorem dX12_goes_1 : decode cX12_goes 1 = .ok (.getfield 28, 3) := by decide +kernel
theorem dX12_goes_4 : decode cX12_goes 4 = .ok (.iload_n 1, 1) := by decide +kernel
theorem dX12_goes_5 : decode cX12_goes 5 = .ok (.dup2, 1) := by decide +kernel
theorem dX12_goes_6 : decode cX12_goes 6 = .ok (.laload, 1) := by decide +kernel
theorem dX12_goes_7 : decode cX12_goes 7 = .ok (.aload_n 0, 1) := by decide +kernel
theorem dX12_goes_8 : decode cX12_goes 8 = .ok (.getfield 35, 3) := by decide +kernel
theorem dX12_goes_11 : decode cX12_goes 11 = .ok (.iload_n 1, 1) := by decide +kernel
theorem dX12_goes_12 : decode cX12_goes 12 = .ok (.iaload, 1) := by decide +kernel
theorem dX12_goes_13 : decode cX12_goes 13 = .ok (.invokestatic 150, 3) := by decide +kernel
theorem dX12_goes_16 : decode cX12_goes 16 = .ok (.i2l, 1) := by decide +kernel
theorem dX12_goes_17 : decode cX12_goes 17 = .ok (.ladd, 1) := by decide +kernel
theorem dX12_goes_18 : decode cX12_goes 18 = .ok (.lastore, 1) := by decide +kernel
theorem dX12_goes_19 : decode cX12_goes 19 = .ok (.aload_n 0, 1) := by decide +kernel
theorem dX12_goes_20 : decode cX12_goes 20 = .ok (.getfield 25, 3) := by decide +kernel
theorem dX12_goes_23 : decode cX12_goes 23 = .ok (.iload_n 1, 1) := by decide +kernel
theorem dX12_goes_24 : decode cX12_goes 24 = .ok (.aload_n 0, 1) := by decide +kernel
theorem dX12_goes_25 : decode cX12_goes 25 = .ok (.getfield 25, 3) := by decide +kernel
theorem dX12_goes_28 : decode cX12_goes 28 = .ok (.iload_n 1, 1) := by decide +kernel
theorem dX12_goes_29 : decode cX12_goes 29 = .ok (.iaload, 1) := by decide +kernel
theorem dX12_goes_30 : decode cX12_goes 30 = .ok (.aload_n 0, 1) := by decide +kernel
theorem dX12_goes_31 : decode cX12_goes 31 = .ok (.getfield 35, 3) := by decide +kernel
theorem dX12_goes_34 : decode cX12_goes 34 = .ok (.iload_n 1, 1) := by decide +kernel
theorem dX12_goes_35 : decode cX12_goes 35 = .ok (.iaload, 1) := by decide +kernel
theorem dX12_goes_36 : decode cX12_goes 36 = .ok (.iadd, 1) := by decide +kernel
theorem dX12_goes_37 : decode cX12_goes 37 = .ok (.sipush 27720, 3) := by decide +kernel
theorem dX12_goes_40 : decode cX12_goes 40 = .ok (.iadd, 1) := by decide +kernel
theorem dX12_goes_41 : decode cX12_goes 41 = .ok (.sipush 27720, 3) := by decide +kernel
theorem dX12_goes_44 : decode cX12_goes 44 = .ok (.irem, 1) := by decide +kernel
theorem dX12_goes_45 : decode cX12_goes 45 = .ok (.iastore, 1) := by decide +kernel
theorem dX12_goes_46 : decode cX12_goes 46 = .ok (.iconst 5, 1) := by decide +kernel
theorem dX12_goes_47 : decode cX12_goes 47 = .ok (.aload_n 0, 1) := by decide +kernel
theorem dX12_goes_48 : decode cX12_goes 48 = .ok (.getfield 172, 3) := by decide +kernel
theorem dX12_goes_51 : decode cX12_goes 51 = .ok (.imul, 1) := by decide +kernel
theorem dX12_goes_52 : decode cX12_goes 52 = .ok (.istore_n 2, 1) := by decide +kernel
theorem dX12_goes_53 : decode cX12_goes 53 = .ok (.aload_n 0, 1) := by decide +kernel
theorem dX12_goes_54 : decode cX12_goes 54 = .ok (.getfield 42, 3) := by decide +kernel
theorem dX12_goes_57 : decode cX12_goes 57 = .ok (.iload_n 2, 1) := by decide +kernel
theorem dX12_goes_58 : decode cX12_goes 58 = .ok (.iload_n 1, 1) := by decide +kernel
theorem dX12_goes_59 : decode cX12_goes 59 = .ok (.i2l, 1) := by decide +kernel
theorem dX12_goes_60 : decode cX12_goes 60 = .ok (.lastore, 1) := by decide +kernel
theorem dX12_goes_61 : decode cX12_goes 61 = .ok (.aload_n 0, 1) := by decide +kernel
theorem dX12_goes_62 : decode cX12_goes 62 = .ok (.getfield 42, 3) := by decide +kernel
theorem dX12_goes_65 : decode cX12_goes 65 = .ok (.iload_n 2, 1) := by decide +kernel
theorem dX12_goes_66 : decode cX12_goes 66 = .ok (.iconst 1, 1) := by decide +kernel
theorem dX12_goes_67 : decode cX12_goes 67 = .ok (.iadd, 1) := by decide +kernel
theorem dX12_goes_68 : decode cX12_goes 68 = .ok (.aload_n 0, 1) := by decide +kernel
theorem dX12_goes_69 : decode cX12_goes 69 = .ok (.getfield 25, 3) := by decide +kernel
theorem dX12_goes_72 : decode cX12_goes 72 = .ok (.iload_n 1, 1) := by decide +kernel
theorem dX12_goes_73 : decode cX12_goes 73 = .ok (.iaload, 1) := by decide +kernel
theorem dX12_goes_74 : decode cX12_goes 74 = .ok (.i2l, 1) := by decide +kernel
theorem dX12_goes_75 : decode cX12_goes 75 = .ok (.lastore, 1) := by decide +kernel
theorem dX12_goes_76 : decode cX12_goes 76 = .ok (.aload_n 0, 1) := by decide +kernel
theorem dX12_goes_77 : decode cX12_goes 77 = .ok (.getfield 42, 3) := by decide +kernel
theorem dX12_goes_80 : decode cX12_goes 80 = .ok (.iload_n 2, 1) := by decide +kernel
theorem dX12_goes_81 : decode cX12_goes 81 = .ok (.iconst 2, 1) := by decide +kernel
theorem dX12_goes_82 : decode cX12_goes 82 = .ok (.iadd, 1) := by decide +kernel
theorem dX12_goes_83 : decode cX12_goes 83 = .ok (.aload_n 0, 1) := by decide +kernel
theorem dX12_goes_84 : decode cX12_goes 84 = .ok (.getfield 28, 3) := by decide +kernel
theorem dX12_goes_87 : decode cX12_goes 87 = .ok (.iload_n 1, 1) := by decide +kernel
theorem dX12_goes_88 : decode cX12_goes 88 = .ok (.laload, 1) := by decide +kernel
theorem dX12_goes_89 : decode cX12_goes 89 = .ok (.lastore, 1) := by decide +kernel
theorem dX12_goes_90 : decode cX12_goes 90 = .ok (.aload_n 0, 1) := by decide +kernel
theorem dX12_goes_91 : decode cX12_goes 91 = .ok (.getfield 42, 3) := by decide +kernel
theorem dX12_goes_94 : decode cX12_goes 94 = .ok (.iload_n 2, 1) := by decide +kernel
theorem dX12_goes_95 : decode cX12_goes 95 = .ok (.iconst 3, 1) := by decide +kernel
theorem dX12_goes_96 : decode cX12_goes 96 = .ok (.iadd, 1) := by decide +kernel
theorem dX12_goes_97 : decode cX12_goes 97 = .ok (.aload_n 0, 1) := by decide +kernel
theorem dX12_goes_98 : decode cX12_goes 98 = .ok (.getfield 32, 3) := by decide +kernel
theorem dX12_goes_101 : decode cX12_goes 101 = .ok (.iload_n 1, 1) := by decide +kernel
theorem dX12_goes_102 : decode cX12_goes 102 = .ok (.iaload, 1) := by decide +kernel
theorem dX12_goes_103 : decode cX12_goes 103 = .ok (.i2l, 1) := by decide +kernel
theorem dX12_goes_104 : decode cX12_goes 104 = .ok (.lastore, 1) := by decide +kernel
theorem dX12_goes_105 : decode cX12_goes 105 = .ok (.aload_n 0, 1) := by decide +kernel
theorem dX12_goes_106 : decode cX12_goes 106 = .ok (.getfield 42, 3) := by decide +kernel
theorem dX12_goes_109 : decode cX12_goes 109 = .ok (.iload_n 2, 1) := by decide +kernel
theorem dX12_goes_110 : decode cX12_goes 110 = .ok (.iconst 4, 1) := by decide +kernel
theorem dX12_goes_111 : decode cX12_goes 111 = .ok (.iadd, 1) := by decide +kernel
theorem dX12_goes_112 : decode cX12_goes 112 = .ok (.aload_n 0, 1) := by decide +kernel
theorem dX12_goes_113 : decode cX12_goes 113 = .ok (.getfield 35, 3) := by decide +kernel
theorem dX12_goes_116 : decode cX12_goes 116 = .ok (.iload_n 1, 1) := by decide +kernel
theorem dX12_goes_117 : decode cX12_goes 117 = .ok (.iaload, 1) := by decide +kernel
theorem dX12_goes_118 : decode cX12_goes 118 = .ok (.i2l, 1) := by decide +kernel
theorem dX12_goes_119 : decode cX12_goes 119 = .ok (.lastore, 1) := by decide +kernel
theorem dX12_goes_120 : decode cX12_goes 120 = .ok (.aload_n 0, 1) := by decide +kernel
theorem dX12_goes_121 : decode cX12_goes 121 = .ok (.getfield 45, 3) := by decide +kernel
theorem dX12_goes_124 : decode cX12_goes 124 = .ok (.aload_n 0, 1) := by decide +kernel
theorem dX12_goes_125 : decode cX12_goes 125 = .ok (.getfield 172, 3) := by decide +kernel
theorem dX12_goes_128 : decode cX12_goes 128 = .ok (.iconst 0, 1) := by decide +kernel
theorem dX12_goes_129 : decode cX12_goes 129 = .ok (.bastore, 1) := by decide +kernel
theorem dX12_goes_130 : decode cX12_goes 130 = .ok (.aload_n 0, 1) := by decide +kernel
theorem dX12_goes_131 : decode cX12_goes 131 = .ok (.dup, 1) := by decide +kernel
theorem dX12_goes_132 : decode cX12_goes 132 = .ok (.getfield 172, 3) := by decide +kernel
theorem dX12_goes_135 : decode cX12_goes 135 = .ok (.iconst 1, 1) := by decide +kernel
theorem dX12_goes_136 : decode cX12_goes 136 = .ok (.iadd, 1) := by decide +kernel
theorem dX12_goes_137 : decode cX12_goes 137 = .ok (.putfield 172, 3) := by decide +kernel
theorem dX12_goes_140 : decode cX12_goes 140 = .ok (.aload_n 0, 1) := by decide +kernel
theorem dX12_goes_141 : decode cX12_goes 141 = .ok (.getfield 32, 3) := by decide +kernel
theorem dX12_goes_144 : decode cX12_goes 144 = .ok (.iload_n 1, 1) := by decide +kernel
theorem dX12_goes_145 : decode cX12_goes 145 = .ok (.aload_n 0, 1) := by decide +kernel
theorem dX12_goes_146 : decode cX12_goes 146 = .ok (.getfield 32, 3) := by decide +kernel
theorem dX12_goes_149 : decode cX12_goes 149 = .ok (.iload_n 1, 1) := by decide +kernel
theorem dX12_goes_150 : decode cX12_goes 150 = .ok (.iaload, 1) := by decide +kernel
theorem dX12_goes_151 : decode cX12_goes 151 = .ok (.i2l, 1) := by decide +kernel
theorem dX12_goes_152 : decode cX12_goes 152 = .ok (.sipush 1000, 3) := by decide +kernel
theorem dX12_goes_155 : decode cX12_goes 155 = .ok (.aload_n 0, 1) := by decide +kernel
theorem dX12_goes_156 : decode cX12_goes 156 = .ok (.getfield 7, 3) := by decide +kernel
theorem dX12_goes_159 : decode cX12_goes 159 = .ok (.iconst 1, 1) := by decide +kernel
theorem dX12_goes_160 : decode cX12_goes 160 = .ok (.iaload, 1) := by decide +kernel
theorem dX12_goes_161 : decode cX12_goes 161 = .ok (.isub, 1) := by decide +kernel
theorem dX12_goes_162 : decode cX12_goes 162 = .ok (.i2l, 1) := by decide +kernel
theorem dX12_goes_163 : decode cX12_goes 163 = .ok (.lmul, 1) := by decide +kernel
theorem dX12_goes_164 : decode cX12_goes 164 = .ok (.ldc2_w 175, 3) := by decide +kernel
theorem dX12_goes_167 : decode cX12_goes 167 = .ok (.ldiv, 1) := by decide +kernel
theorem dX12_goes_168 : decode cX12_goes 168 = .ok (.l2i, 1) := by decide +kernel
theorem dX12_goes_169 : decode cX12_goes 169 = .ok (.iastore, 1) := by decide +kernel
theorem dX12_goes_170 : decode cX12_goes 170 = .ok (.iconst 0, 1) := by decide +kernel
theorem dX12_goes_171 : decode cX12_goes 171 = .ok (.istore_n 3, 1) := by decide +kernel
theorem dX12_goes_172 : decode cX12_goes 172 = .ok (.iload_n 3, 1) := by decide +kernel
theorem dX12_goes_173 : decode cX12_goes 173 = .ok (.aload_n 0, 1) := by decide +kernel
theorem dX12_goes_174 : decode cX12_goes 174 = .ok (.getfield 7, 3) := by decide +kernel
theorem dX12_goes_177 : decode cX12_goes 177 = .ok (.iconst 0, 1) := by decide +kernel
theorem dX12_goes_178 : decode cX12_goes 178 = .ok (.iaload, 1) := by decide +kernel
theorem dX12_goes_179 : decode cX12_goes 179 = .ok (.if_icmp .ge 38, 3) := by decide +kernel
theorem dX12_goes_182 : decode cX12_goes 182 = .ok (.aload_n 0, 1) := by decide +kernel
theorem dX12_goes_183 : decode cX12_goes 183 = .ok (.getfield 38, 3) := by decide +kernel
theorem dX12_goes_186 : decode cX12_goes 186 = .ok (.iload_n 1, 1) := by decide +kernel
theorem dX12_goes_187 : decode cX12_goes 187 = .ok (.baload, 1) := by decide +kernel
theorem dX12_goes_188 : decode cX12_goes 188 = .ok (.ifCond .eq 29, 3) := by decide +kernel
theorem dX12_goes_191 : decode cX12_goes 191 = .ok (.aload_n 0, 1) := by decide +kernel
theorem dX12_goes_192 : decode cX12_goes 192 = .ok (.iload_n 3, 1) := by decide +kernel
theorem dX12_goes_193 : decode cX12_goes 193 = .ok (.aload_n 0, 1) := by decide +kernel
theorem dX12_goes_194 : decode cX12_goes 194 = .ok (.getfield 25, 3) := by decide +kernel
theorem dX12_goes_197 : decode cX12_goes 197 = .ok (.iload_n 1, 1) := by decide +kernel
theorem dX12_goes_198 : decode cX12_goes 198 = .ok (.iaload, 1) := by decide +kernel
theorem dX12_goes_199 : decode cX12_goes 199 = .ok (.invokevirtual 188, 3) := by decide +kernel
theorem dX12_goes_202 : decode cX12_goes 202 = .ok (.ifCond .eq 9, 3) := by decide +kernel
theorem dX12_goes_205 : decode cX12_goes 205 = .ok (.aload_n 0, 1) := by decide +kernel
theorem dX12_goes_206 : decode cX12_goes 206 = .ok (.iload_n 3, 1) := by decide +kernel
theorem dX12_goes_207 : decode cX12_goes 207 = .ok (.iload_n 1, 1) := by decide +kernel
theorem dX12_goes_208 : decode cX12_goes 208 = .ok (.invokevirtual 191, 3) := by decide +kernel
theorem dX12_goes_211 : decode cX12_goes 211 = .ok (.iinc 3 1, 3) := by decide +kernel
theorem dX12_goes_214 : decode cX12_goes 214 = .ok (.goto (-42), 3) := by decide +kernel
theorem dX12_goes_217 : decode cX12_goes 217 = .ok (.aload_n 0, 1) := by decide +kernel
theorem dX12_goes_218 : decode cX12_goes 218 = .ok (.getfield 38, 3) := by decide +kernel
theorem dX12_goes_221 : decode cX12_goes 221 = .ok (.iload_n 1, 1) := by decide +kernel
theorem dX12_goes_222 : decode cX12_goes 222 = .ok (.aload_n 0, 1) := by decide +kernel
theorem dX12_goes_223 : decode cX12_goes 223 = .ok (.getfield 38, 3) := by decide +kernel
theorem dX12_goes_226 : decode cX12_goes 226 = .ok (.iload_n 1, 1) := by decide +kernel
theorem dX12_goes_227 : decode cX12_goes 227 = .ok (.baload, 1) := by decide +kernel
theorem dX12_goes_228 : decode cX12_goes 228 = .ok (.ifCond .eq 22, 3) := by decide +kernel
theorem dX12_goes_231 : decode cX12_goes 231 = .ok (.aload_n 0, 1) := by decide +kernel
theorem dX12_goes_232 : decode cX12_goes 232 = .ok (.getfield 32, 3) := by decide +kernel
theorem dX12_goes_235 : decode cX12_goes 235 = .ok (.iload_n 1, 1) := by decide +kernel
theorem dX12_goes_236 : decode cX12_goes 236 = .ok (.iaload, 1) := by decide +kernel
theorem dX12_goes_237 : decode cX12_goes 237 = .ok (.aload_n 0, 1) := by decide +kernel
theorem dX12_goes_238 : decode cX12_goes 238 = .ok (.getfield 7, 3) := by decide +kernel
theorem dX12_goes_241 : decode cX12_goes 241 = .ok (.iconst 2, 1) := by decide +kernel
theorem dX12_goes_242 : decode cX12_goes 242 = .ok (.iaload, 1) := by decide +kernel
theorem dX12_goes_243 : decode cX12_goes 243 = .ok (.if_icmp .lt 7, 3) := by decide +kernel
theorem dX12_goes_246 : decode cX12_goes 246 = .ok (.iconst 1, 1) := by decide +kernel
theorem dX12_goes_247 : decode cX12_goes 247 = .ok (.goto 4, 3) := by decide +kernel
theorem dX12_goes_250 : decode cX12_goes 250 = .ok (.iconst 0, 1) := by decide +kernel
theorem dX12_goes_251 : decode cX12_goes 251 = .ok (.bastore, 1) := by decide +kernel
theorem dX12_goes_252 : decode cX12_goes 252 = .ok (.return_, 1) := by decide +kernel
set_option maxRecDepth 20000 in
theorem ggX12_shoot_X12_isPlace : GoodIn wsX12_shoot wsX12_isPlace := goodIn_r _ [13, 14, 15, 12, 16] (by decide +kernel) (by decide +kernel)
set_option maxRecDepth 20000 in
theorem gX12_shoot_X12_isPlace : GoodIn wsX12_shoot (va_wsS RX12 165 yX12_isPlace wsX12_isPlace) := goodIn_app (goodIn_of _ (by decide +kernel)) ggX12_shoot_X12_isPlace
set_option maxRecDepth 20000 in
theorem ggX12_shoot_X12_isStep : GoodIn wsX12_shoot wsX12_isStep := goodIn_r _ [19, 14, 15, 12, 16] (by decide +kernel) (by decide +kernel)
set_option maxRecDepth 20000 in
theorem gX12_shoot_X12_isStep : GoodIn wsX12_shoot (va_wsS RX12 147 yX12_isStep wsX12_isStep) := goodIn_app (goodIn_of _ (by decide +kernel)) ggX12_shoot_X12_isStep
set_option maxRecDepth 20000 in
theorem ggX12_shoot_X12_in : GoodIn wsX12_shoot wsX12_in := goodIn_r _ [16] (by decide +kernel) (by decide +kernel)
set_option maxRecDepth 20000 in
theorem gX12_shoot_X12_in : GoodIn wsX12_shoot (va_wsS RX12 70 yX12_in wsX12_in) := goodIn_app (goodIn_of _ (by decide +kernel)) ggX12_shoot_X12_in
set_option maxRecDepth 20000 in
theorem ggX12_shoot_X12_begins : GoodIn wsX12_shoot wsX12_begins := goodIn_r _ [23, 24, 5, 25, 26, 27, 28, 69, 70, 71, 72, 73, 74, 75, 76, 77, 78, 79, 80, 81, 82, 83, 84, 85, 86, 87, 88, 89, 90, 91, 92, 93, 94, 95] (by decide +kernel) (by decide +kernel)
set_option maxRecDepth 20000 in
theorem gX12_shoot_X12_begins : GoodIn wsX12_shoot (wsV RX12 180 RX12 yX12_begins wsX12_begins) := goodIn_app (goodIn_of _ (by decide +kernel)) ggX12_shoot_X12_begins
set_option maxRecDepth 20000 in
theorem ggX12_shoot_X12_next : GoodIn wsX12_shoot wsX12_next := goodIn_r _ [32, 33, 5, 25, 26, 28, 34, 35, 12, 36, 37, 38, 39, 40, 41, 42, 43, 44, 69, 70, 71, 72, 73, 74, 75, 76, 77, 78, 79, 80, 81, 82, 83, 84, 85, 86, 87, 88, 89, 90, 91, 92, 93, 94, 95] (by decide +kernel) (by decide +kernel)
set_option maxRecDepth 20000 in
theorem gX12_shoot_X12_next : GoodIn wsX12_shoot (wsV RX12 200 RX12 yX12_next wsX12_next) := goodIn_app (goodIn_of _ (by decide +kernel)) ggX12_shoot_X12_next
set_option maxRecDepth 20000 in
theorem ggX12_shoot_X12_goes : GoodIn wsX12_shoot wsX12_goes := goodIn_r _ [48, 25, 26, 24, 6, 49, 27, 50, 51, 52, 28, 34, 35, 12, 36, 37, 38, 39, 40, 41, 42, 43, 44, 53, 54, 55, 56, 57, 58, 59, 60, 5, 61, 62, 63, 17, 18, 19, 14, 15, 16, 20, 21, 22, 23, 64, 65, 66, 67, 68, 7, 8, 9, 69, 70, 71, 72, 73, 74, 75, 76, 77, 78, 79, 80, 81, 82, 83, 84, 85, 86, 87, 88, 89, 90, 91, 92, 93, 94, 95] (by decide +kernel) (by decide +kernel)
set_option maxRecDepth 20000 in
theorem gX12_shoot_X12_goes : GoodIn wsX12_shoot (wsV RX12 203 RX12 yX12_goes wsX12_goes) := goodIn_app (goodIn_of _ (by decide +kernel)) ggX12_shoot_X12_goes
theorem dX12_shoot_0 : decode cX12_shoot 0 = .ok (.iload_n 1, 1) := by decide +kernel
theorem dX12_shoot_1 : decode cX12_shoot 1 = .ok (.invokestatic 165, 3) := by decide +kernel
theorem dX12_shoot_4 : decode cX12_shoot 4 = .ok (.ifCond .eq 20, 3) := by decide +kernel
theorem dX12_shoot_7 : decode cX12_shoot 7 = .ok (.iload_n 2, 1) := by decide +kernel
theorem dX12_shoot_8 : decode cX12_shoot 8 = .ok (.invokestatic 147, 3) := by decide +kernel
theorem dX12_shoot_11 : decode cX12_shoot 11 = .ok (.ifCond .eq 13, 3) := by decide +kernel
theorem dX12_shoot_14 : decode cX12_shoot 14 = .ok (.iload_n 3, 1) := by decide +kernel
theorem dX12_shoot_15 : decode cX12_shoot 15 = .ok (.iconst 1, 1) := by decide +kernel
theorem dX12_shoot_16 : decode cX12_shoot 16 = .ok (.ldc 95, 2) := by decide +kernel
theorem dX12_shoot_18 : decode cX12_shoot 18 = .ok (.invokestatic 70, 3) := by decide +kernel
theorem dX12_shoot_21 : decode cX12_shoot 21 = .ok (.ifCond .ne 6, 3) := by decide +kernel
theorem dX12_shoot_24 : decode cX12_shoot 24 = .ok (.ldc 78, 2) := by decide +kernel
theorem dX12_shoot_26 : decode cX12_shoot 26 = .ok (.ireturn, 1) := by decide +kernel
theorem dX12_shoot_27 : decode cX12_shoot 27 = .ok (.aload_n 0, 1) := by decide +kernel
theorem dX12_shoot_28 : decode cX12_shoot 28 = .ok (.iconst 1, 1) := by decide +kernel
theorem dX12_shoot_29 : decode cX12_shoot 29 = .ok (.putfield 194, 3) := by decide +kernel
theorem dX12_shoot_32 : decode cX12_shoot 32 = .ok (.aload_n 0, 1) := by decide +kernel
theorem dX12_shoot_33 : decode cX12_shoot 33 = .ok (.iload_n 1, 1) := by decide +kernel
theorem dX12_shoot_34 : decode cX12_shoot 34 = .ok (.putfield 197, 3) := by decide +kernel
theorem dX12_shoot_37 : decode cX12_shoot 37 = .ok (.aload_n 0, 1) := by decide +kernel
theorem dX12_shoot_38 : decode cX12_shoot 38 = .ok (.iconst 0, 1) := by decide +kernel
theorem dX12_shoot_39 : decode cX12_shoot 39 = .ok (.putfield 169, 3) := by decide +kernel
theorem dX12_shoot_42 : decode cX12_shoot 42 = .ok (.aload_n 0, 1) := by decide +kernel
theorem dX12_shoot_43 : decode cX12_shoot 43 = .ok (.iconst 0, 1) := by decide +kernel
theorem dX12_shoot_44 : decode cX12_shoot 44 = .ok (.putfield 172, 3) := by decide +kernel
theorem dX12_shoot_47 : decode cX12_shoot 47 = .ok (.iconst 0, 1) := by decide +kernel
theorem dX12_shoot_48 : decode cX12_shoot 48 = .ok (.istore 4, 2) := by decide +kernel
theorem dX12_shoot_50 : decode cX12_shoot 50 = .ok (.iload 4, 2) := by decide +kernel
theorem dX12_shoot_52 : decode cX12_shoot 52 = .ok (.bipush 12, 2) := by decide +kernel
theorem dX12_shoot_54 : decode cX12_shoot 54 = .ok (.if_icmp .ge 33, 3) := by decide +kernel
theorem dX12_shoot_57 : decode cX12_shoot 57 = .ok (.aload_n 0, 1) := by decide +kernel
theorem dX12_shoot_58 : decode cX12_shoot 58 = .ok (.getfield 48, 3) := by decide +kernel
theorem dX12_shoot_61 : decode cX12_shoot 61 = .ok (.iload 4, 2) := by decide +kernel
theorem dX12_shoot_63 : decode cX12_shoot 63 = .ok (.iconst 0, 1) := by decide +kernel
theorem dX12_shoot_64 : decode cX12_shoot 64 = .ok (.iastore, 1) := by decide +kernel
theorem dX12_shoot_65 : decode cX12_shoot 65 = .ok (.aload_n 0, 1) := by decide +kernel
theorem dX12_shoot_66 : decode cX12_shoot 66 = .ok (.getfield 51, 3) := by decide +kernel
theorem dX12_shoot_69 : decode cX12_shoot 69 = .ok (.iload 4, 2) := by decide +kernel
theorem dX12_shoot_71 : decode cX12_shoot 71 = .ok (.lconst 0, 1) := by decide +kernel
theorem dX12_shoot_72 : decode cX12_shoot 72 = .ok (.lastore, 1) := by decide +kernel
theorem dX12_shoot_73 : decode cX12_shoot 73 = .ok (.aload_n 0, 1) := by decide +kernel
theorem dX12_shoot_74 : decode cX12_shoot 74 = .ok (.getfield 57, 3) := by decide +kernel
theorem dX12_shoot_77 : decode cX12_shoot 77 = .ok (.iload 4, 2) := by decide +kernel
theorem dX12_shoot_79 : decode cX12_shoot 79 = .ok (.iconst 0, 1) := by decide +kernel
theorem dX12_shoot_80 : decode cX12_shoot 80 = .ok (.iastore, 1) := by decide +kernel
theorem dX12_shoot_81 : decode cX12_shoot 81 = .ok (.iinc 4 1, 3) := by decide +kernel
theorem dX12_shoot_84 : decode cX12_shoot 84 = .ok (.goto (-34), 3) := by decide +kernel
theorem dX12_shoot_87 : decode cX12_shoot 87 = .ok (.aload_n 0, 1) := by decide +kernel
theorem dX12_shoot_88 : decode cX12_shoot 88 = .ok (.iload_n 1, 1) := by decide +kernel
theorem dX12_shoot_89 : decode cX12_shoot 89 = .ok (.lconst 0, 1) := by decide +kernel
theorem dX12_shoot_90 : decode cX12_shoot 90 = .ok (.iload_n 2, 1) := by decide +kernel
theorem dX12_shoot_91 : decode cX12_shoot 91 = .ok (.iload_n 3, 1) := by decide +kernel
theorem dX12_shoot_92 : decode cX12_shoot 92 = .ok (.invokevirtual 180, 3) := by decide +kernel
theorem dX12_shoot_95 : decode cX12_shoot 95 = .ok (.aload_n 0, 1) := by decide +kernel
theorem dX12_shoot_96 : decode cX12_shoot 96 = .ok (.invokevirtual 200, 3) := by decide +kernel
theorem dX12_shoot_99 : decode cX12_shoot 99 = .ok (.istore 4, 2) := by decide +kernel
theorem dX12_shoot_101 : decode cX12_shoot 101 = .ok (.iload 4, 2) := by decide +kernel
theorem dX12_shoot_103 : decode cX12_shoot 103 = .ok (.ifCond .lt 28, 3) := by decide +kernel
theorem dX12_shoot_106 : decode cX12_shoot 106 = .ok (.aload_n 0, 1) := by decide +kernel
theorem dX12_shoot_107 : decode cX12_shoot 107 = .ok (.getfield 172, 3) := by decide +kernel
theorem dX12_shoot_110 : decode cX12_shoot 110 = .ok (.sipush 600, 3) := by decide +kernel
theorem dX12_shoot_113 : decode cX12_shoot 113 = .ok (.if_icmp .ge 18, 3) := by decide +kernel
theorem dX12_shoot_116 : decode cX12_shoot 116 = .ok (.aload_n 0, 1) := by decide +kernel
theorem dX12_shoot_117 : decode cX12_shoot 117 = .ok (.iload 4, 2) := by decide +kernel
theorem dX12_shoot_119 : decode cX12_shoot 119 = .ok (.invokevirtual 203, 3) := by decide +kernel
theorem dX12_shoot_122 : decode cX12_shoot 122 = .ok (.aload_n 0, 1) := by decide +kernel
theorem dX12_shoot_123 : decode cX12_shoot 123 = .ok (.invokevirtual 200, 3) := by decide +kernel
theorem dX12_shoot_126 : decode cX12_shoot 126 = .ok (.istore 4, 2) := by decide +kernel
theorem dX12_shoot_128 : decode cX12_shoot 128 = .ok (.goto (-27), 3) := by decide +kernel
theorem dX12_shoot_131 : decode cX12_shoot 131 = .ok (.aload_n 0, 1) := by decide +kernel
theorem dX12_shoot_132 : decode cX12_shoot 132 = .ok (.getfield 172, 3) := by decide +kernel
theorem dX12_shoot_135 : decode cX12_shoot 135 = .ok (.ireturn, 1) := by decide +kernel
theorem dX12_hits_0 : decode cX12_hits 0 = .ok (.aload_n 0, 1) := by decide +kernel
theorem dX12_hits_1 : decode cX12_hits 1 = .ok (.getfield 172, 3) := by decide +kernel
theorem dX12_hits_4 : decode cX12_hits 4 = .ok (.ireturn, 1) := by decide +kernel
set_option maxRecDepth 20000 in
theorem ggX12_hit_X12_in : GoodIn wsX12_hit wsX12_in := goodIn_r _ [7] (by decide +kernel) (by decide +kernel)
set_option maxRecDepth 20000 in
theorem gX12_hit_X12_in : GoodIn wsX12_hit (va_wsS RX12 70 yX12_in wsX12_in) := goodIn_app (goodIn_of _ (by decide +kernel)) ggX12_hit_X12_in
theorem dX12_hit_0 : decode cX12_hit 0 = .ok (.iload_n 1, 1) := by decide +kernel
theorem dX12_hit_1 : decode cX12_hit 1 = .ok (.iconst 0, 1) := by decide +kernel
theorem dX12_hit_2 : decode cX12_hit 2 = .ok (.aload_n 0, 1) := by decide +kernel
theorem dX12_hit_3 : decode cX12_hit 3 = .ok (.getfield 172, 3) := by decide +kernel
theorem dX12_hit_6 : decode cX12_hit 6 = .ok (.iconst 1, 1) := by decide +kernel
theorem dX12_hit_7 : decode cX12_hit 7 = .ok (.isub, 1) := by decide +kernel
theorem dX12_hit_8 : decode cX12_hit 8 = .ok (.invokestatic 70, 3) := by decide +kernel
theorem dX12_hit_11 : decode cX12_hit 11 = .ok (.ifCond .eq 25, 3) := by decide +kernel
theorem dX12_hit_14 : decode cX12_hit 14 = .ok (.iload_n 2, 1) := by decide +kernel
theorem dX12_hit_15 : decode cX12_hit 15 = .ok (.iconst 0, 1) := by decide +kernel
theorem dX12_hit_16 : decode cX12_hit 16 = .ok (.iconst 4, 1) := by decide +kernel
theorem dX12_hit_17 : decode cX12_hit 17 = .ok (.invokestatic 70, 3) := by decide +kernel
theorem dX12_hit_20 : decode cX12_hit 20 = .ok (.ifCond .eq 16, 3) := by decide +kernel
theorem dX12_hit_23 : decode cX12_hit 23 = .ok (.aload_n 0, 1) := by decide +kernel
theorem dX12_hit_24 : decode cX12_hit 24 = .ok (.getfield 42, 3) := by decide +kernel
theorem dX12_hit_27 : decode cX12_hit 27 = .ok (.iconst 5, 1) := by decide +kernel
theorem dX12_hit_28 : decode cX12_hit 28 = .ok (.iload_n 1, 1) := by decide +kernel
theorem dX12_hit_29 : decode cX12_hit 29 = .ok (.imul, 1) := by decide +kernel
theorem dX12_hit_30 : decode cX12_hit 30 = .ok (.iload_n 2, 1) := by decide +kernel
theorem dX12_hit_31 : decode cX12_hit 31 = .ok (.iadd, 1) := by decide +kernel
theorem dX12_hit_32 : decode cX12_hit 32 = .ok (.laload, 1) := by decide +kernel
theorem dX12_hit_33 : decode cX12_hit 33 = .ok (.goto 6, 3) := by decide +kernel
theorem dX12_hit_36 : decode cX12_hit 36 = .ok (.ldc2_w 207, 3) := by decide +kernel
theorem dX12_hit_39 : decode cX12_hit 39 = .ok (.lreturn, 1) := by decide +kernel
theorem dX12_rays_0 : decode cX12_rays 0 = .ok (.aload_n 0, 1) := by decide +kernel
theorem dX12_rays_1 : decode cX12_rays 1 = .ok (.getfield 169, 3) := by decide +kernel
theorem dX12_rays_4 : decode cX12_rays 4 = .ok (.ireturn, 1) := by decide +kernel
theorem dX12_covered_0 : decode cX12_covered 0 = .ok (.iconst 0, 1) := by decide +kernel
theorem dX12_covered_1 : decode cX12_covered 1 = .ok (.istore_n 1, 1) := by decide +kernel
theorem dX12_covered_2 : decode cX12_covered 2 = .ok (.iload_n 1, 1) := by decide +kernel
theorem dX12_covered_3 : decode cX12_covered 3 = .ok (.sipush 27720, 3) := by decide +kernel
theorem dX12_covered_6 : decode cX12_covered 6 = .ok (.if_icmp .ge 16, 3) := by decide +kernel
theorem dX12_covered_9 : decode cX12_covered 9 = .ok (.aload_n 0, 1) := by decide +kernel
theorem dX12_covered_10 : decode cX12_covered 10 = .ok (.getfield 60, 3) := by decide +kernel
theorem dX12_covered_13 : decode cX12_covered 13 = .ok (.iload_n 1, 1) := by decide +kernel
theorem dX12_covered_14 : decode cX12_covered 14 = .ok (.iconst 0, 1) := by decide +kernel
theorem dX12_covered_15 : decode cX12_covered 15 = .ok (.bastore, 1) := by decide +kernel
theorem dX12_covered_16 : decode cX12_covered 16 = .ok (.iinc 1 1, 3) := by decide +kernel
theorem dX12_covered_19 : decode cX12_covered 19 = .ok (.goto (-17), 3) := by decide +kernel
theorem dX12_covered_22 : decode cX12_covered 22 = .ok (.iconst 0, 1) := by decide +kernel
theorem dX12_covered_23 : decode cX12_covered 23 = .ok (.istore_n 1, 1) := by decide +kernel
theorem dX12_covered_24 : decode cX12_covered 24 = .ok (.iconst 0, 1) := by decide +kernel
theorem dX12_covered_25 : decode cX12_covered 25 = .ok (.istore_n 2, 1) := by decide +kernel
theorem dX12_covered_26 : decode cX12_covered 26 = .ok (.iload_n 2, 1) := by decide +kernel
theorem dX12_covered_27 : decode cX12_covered 27 = .ok (.aload_n 0, 1) := by decide +kernel
theorem dX12_covered_28 : decode cX12_covered 28 = .ok (.getfield 172, 3) := by decide +kernel
theorem dX12_covered_31 : decode cX12_covered 31 = .ok (.if_icmp .ge 45, 3) := by decide +kernel
theorem dX12_covered_34 : decode cX12_covered 34 = .ok (.aload_n 0, 1) := by decide +kernel
theorem dX12_covered_35 : decode cX12_covered 35 = .ok (.getfield 42, 3) := by decide +kernel
theorem dX12_covered_38 : decode cX12_covered 38 = .ok (.iconst 5, 1) := by decide +kernel
theorem dX12_covered_39 : decode cX12_covered 39 = .ok (.iload_n 2, 1) := by decide +kernel
theorem dX12_covered_40 : decode cX12_covered 40 = .ok (.imul, 1) := by decide +kernel
theorem dX12_covered_41 : decode cX12_covered 41 = .ok (.iconst 1, 1) := by decide +kernel
theorem dX12_covered_42 : decode cX12_covered 42 = .ok (.iadd, 1) := by decide +kernel
theorem dX12_covered_43 : decode cX12_covered 43 = .ok (.laload, 1) := by decide +kernel
theorem dX12_covered_44 : decode cX12_covered 44 = .ok (.l2i, 1) := by decide +kernel
theorem dX12_covered_45 : decode cX12_covered 45 = .ok (.istore_n 3, 1) := by decide +kernel
theorem dX12_covered_46 : decode cX12_covered 46 = .ok (.iload_n 1, 1) := by decide +kernel
theorem dX12_covered_47 : decode cX12_covered 47 = .ok (.aload_n 0, 1) := by decide +kernel
theorem dX12_covered_48 : decode cX12_covered 48 = .ok (.getfield 60, 3) := by decide +kernel
theorem dX12_covered_51 : decode cX12_covered 51 = .ok (.iload_n 3, 1) := by decide +kernel
theorem dX12_covered_52 : decode cX12_covered 52 = .ok (.baload, 1) := by decide +kernel
theorem dX12_covered_53 : decode cX12_covered 53 = .ok (.ifCond .eq 7, 3) := by decide +kernel
theorem dX12_covered_56 : decode cX12_covered 56 = .ok (.iconst 0, 1) := by decide +kernel
theorem dX12_covered_57 : decode cX12_covered 57 = .ok (.goto 4, 3) := by decide +kernel
theorem dX12_covered_60 : decode cX12_covered 60 = .ok (.iconst 1, 1) := by decide +kernel
theorem dX12_covered_61 : decode cX12_covered 61 = .ok (.iadd, 1) := by decide +kernel
theorem dX12_covered_62 : decode cX12_covered 62 = .ok (.istore_n 1, 1) := by decide +kernel
theorem dX12_covered_63 : decode cX12_covered 63 = .ok (.aload_n 0, 1) := by decide +kernel
theorem dX12_covered_64 : decode cX12_covered 64 = .ok (.getfield 60, 3) := by decide +kernel
theorem dX12_covered_67 : decode cX12_covered 67 = .ok (.iload_n 3, 1) := by decide +kernel
theorem dX12_covered_68 : decode cX12_covered 68 = .ok (.iconst 1, 1) := by decide +kernel
theorem dX12_covered_69 : decode cX12_covered 69 = .ok (.bastore, 1) := by decide +kernel
theorem dX12_covered_70 : decode cX12_covered 70 = .ok (.iinc 2 1, 3) := by decide +kernel
theorem dX12_covered_73 : decode cX12_covered 73 = .ok (.goto (-47), 3) := by decide +kernel
theorem dX12_covered_76 : decode cX12_covered 76 = .ok (.iload_n 1, 1) := by decide +kernel
theorem dX12_covered_77 : decode cX12_covered 77 = .ok (.ireturn, 1) := by decide +kernel
set_option maxRecDepth 20000 in
theorem ggX12_coverage_X12_covered : GoodIn wsX12_coverage wsX12_covered := goodIn_r _ [5, 6, 7, 8, 9, 10, 11, 12, 13, 14, 15, 16, 17, 18, 19, 20, 21, 22, 23, 24, 25, 26, 27, 28, 29, 30, 31, 32, 33, 34, 35] (by decide +kernel) (by decide +kernel)
set_option maxRecDepth 20000 in
theorem gX12_coverage_X12_covered : GoodIn wsX12_coverage (wsV RX12 209 RX12 yX12_covered wsX12_covered) := goodIn_app (goodIn_of _ (by decide +kernel)) ggX12_coverage_X12_covered
theorem dX12_coverage_0 : decode cX12_coverage 0 = .ok (.aload_n 0, 1) := by decide +kernel
theorem dX12_coverage_1 : decode cX12_coverage 1 = .ok (.invokevirtual 209, 3) := by decide +kernel
theorem dX12_coverage_4 : decode cX12_coverage 4 = .ok (.ireturn, 1) := by decide +kernel
set_option maxRecDepth 20000 in
theorem ggX12_gap_X12_covered : GoodIn wsX12_gap wsX12_covered := goodIn_r _ [7, 2, 8, 9, 10, 11, 12, 13, 14, 15, 16, 17, 18, 19, 20, 21, 22, 23, 24, 25, 26, 27, 28, 29, 30, 31, 32, 33, 34, 35, 36] (by decide +kernel) (by decide +kernel)
set_option maxRecDepth 20000 in
theorem gX12_gap_X12_covered : GoodIn wsX12_gap (wsV RX12 209 RX12 yX12_covered wsX12_covered) := goodIn_app (goodIn_of _ (by decide +kernel)) ggX12_gap_X12_covered
theorem dX12_gap_0 : decode cX12_gap 0 = .ok (.aload_n 0, 1) := by decide +kernel
theorem dX12_gap_1 : decode cX12_gap 1 = .ok (.invokevirtual 209, 3) := by decide +kernel
theorem dX12_gap_4 : decode cX12_gap 4 = .ok (.ifCond .ne 7, 3) := by decide +kernel
theorem dX12_gap_7 : decode cX12_gap 7 = .ok (.sipush 27720, 3) := by decide +kernel
theorem dX12_gap_10 : decode cX12_gap 10 = .ok (.ireturn, 1) := by decide +kernel
theorem dX12_gap_11 : decode cX12_gap 11 = .ok (.iconst 0, 1) := by decide +kernel
theorem dX12_gap_12 : decode cX12_gap 12 = .ok (.istore_n 1, 1) := by decide +kernel
theorem dX12_gap_13 : decode cX12_gap 13 = .ok (.iconst 0, 1) := by decide +kernel
theorem dX12_gap_14 : decode cX12_gap 14 = .ok (.istore_n 2, 1) := by decide +kernel
theorem dX12_gap_15 : decode cX12_gap 15 = .ok (.iconst 0, 1) := by decide +kernel
theorem dX12_gap_16 : decode cX12_gap 16 = .ok (.istore_n 3, 1) := by decide +kernel
theorem dX12_gap_17 : decode cX12_gap 17 = .ok (.iload_n 3, 1) := by decide +kernel
theorem dX12_gap_18 : decode cX12_gap 18 = .ok (.ldc 212, 2) := by decide +kernel
theorem dX12_gap_20 : decode cX12_gap 20 = .ok (.if_icmp .ge 41, 3) := by decide +kernel
theorem dX12_gap_23 : decode cX12_gap 23 = .ok (.aload_n 0, 1) := by decide +kernel
theorem dX12_gap_24 : decode cX12_gap 24 = .ok (.getfield 60, 3) := by decide +kernel
theorem dX12_gap_27 : decode cX12_gap 27 = .ok (.iload_n 3, 1) := by decide +kernel
theorem dX12_gap_28 : decode cX12_gap 28 = .ok (.sipush 27720, 3) := by decide +kernel
theorem dX12_gap_31 : decode cX12_gap 31 = .ok (.irem, 1) := by decide +kernel
theorem dX12_gap_32 : decode cX12_gap 32 = .ok (.baload, 1) := by decide +kernel
theorem dX12_gap_33 : decode cX12_gap 33 = .ok (.ifCond .eq 7, 3) := by decide +kernel
theorem dX12_gap_36 : decode cX12_gap 36 = .ok (.iconst 0, 1) := by decide +kernel
theorem dX12_gap_37 : decode cX12_gap 37 = .ok (.goto 6, 3) := by decide +kernel
theorem dX12_gap_40 : decode cX12_gap 40 = .ok (.iload_n 2, 1) := by decide +kernel
theorem dX12_gap_41 : decode cX12_gap 41 = .ok (.iconst 1, 1) := by decide +kernel
theorem dX12_gap_42 : decode cX12_gap 42 = .ok (.iadd, 1) := by decide +kernel
theorem dX12_gap_43 : decode cX12_gap 43 = .ok (.istore_n 2, 1) := by decide +kernel
theorem dX12_gap_44 : decode cX12_gap 44 = .ok (.iload_n 2, 1) := by decide +kernel
theorem dX12_gap_45 : decode cX12_gap 45 = .ok (.iload_n 1, 1) := by decide +kernel
theorem dX12_gap_46 : decode cX12_gap 46 = .ok (.if_icmp .le 7, 3) := by decide +kernel
theorem dX12_gap_49 : decode cX12_gap 49 = .ok (.iload_n 2, 1) := by decide +kernel
theorem dX12_gap_50 : decode cX12_gap 50 = .ok (.goto 4, 3) := by decide +kernel
theorem dX12_gap_53 : decode cX12_gap 53 = .ok (.iload_n 1, 1) := by decide +kernel
theorem dX12_gap_54 : decode cX12_gap 54 = .ok (.istore_n 1, 1) := by decide +kernel
theorem dX12_gap_55 : decode cX12_gap 55 = .ok (.iinc 3 1, 3) := by decide +kernel
theorem dX12_gap_58 : decode cX12_gap 58 = .ok (.goto (-41), 3) := by decide +kernel
theorem dX12_gap_61 : decode cX12_gap 61 = .ok (.iload_n 1, 1) := by decide +kernel
theorem dX12_gap_62 : decode cX12_gap 62 = .ok (.ireturn, 1) := by decide +kernel
theorem dX12_heardOf_0 : decode cX12_heardOf 0 = .ok (.iload_n 2, 1) := by decide +kernel
theorem dX12_heardOf_1 : decode cX12_heardOf 1 = .ok (.iconst 2, 1) := by decide +kernel
theorem dX12_heardOf_2 : decode cX12_heardOf 2 = .ok (.if_icmp .ne 25, 3) := by decide +kernel
theorem dX12_heardOf_5 : decode cX12_heardOf 5 = .ok (.aload_n 0, 1) := by decide +kernel
theorem dX12_heardOf_6 : decode cX12_heardOf 6 = .ok (.getfield 48, 3) := by decide +kernel
theorem dX12_heardOf_9 : decode cX12_heardOf 9 = .ok (.iload_n 1, 1) := by decide +kernel
theorem dX12_heardOf_10 : decode cX12_heardOf 10 = .ok (.iaload, 1) := by decide +kernel
theorem dX12_heardOf_11 : decode cX12_heardOf 11 = .ok (.ifCond .ne 9, 3) := by decide +kernel
theorem dX12_heardOf_14 : decode cX12_heardOf 14 = .ok (.ldc2_w 213, 3) := by decide +kernel
theorem dX12_heardOf_17 : decode cX12_heardOf 17 = .ok (.goto 9, 3) := by decide +kernel
theorem dX12_heardOf_20 : decode cX12_heardOf 20 = .ok (.aload_n 0, 1) := by decide +kernel
theorem dX12_heardOf_21 : decode cX12_heardOf 21 = .ok (.getfield 54, 3) := by decide +kernel
theorem dX12_heardOf_24 : decode cX12_heardOf 24 = .ok (.iload_n 1, 1) := by decide +kernel
theorem dX12_heardOf_25 : decode cX12_heardOf 25 = .ok (.laload, 1) := by decide +kernel
theorem dX12_heardOf_26 : decode cX12_heardOf 26 = .ok (.lreturn, 1) := by decide +kernel
theorem dX12_heardOf_27 : decode cX12_heardOf 27 = .ok (.iload_n 2, 1) := by decide +kernel
theorem dX12_heardOf_28 : decode cX12_heardOf 28 = .ok (.ifCond .ne 13, 3) := by decide +kernel
theorem dX12_heardOf_31 : decode cX12_heardOf 31 = .ok (.aload_n 0, 1) := by decide +kernel
theorem dX12_heardOf_32 : decode cX12_heardOf 32 = .ok (.getfield 48, 3) := by decide +kernel
theorem dX12_heardOf_35 : decode cX12_heardOf 35 = .ok (.iload_n 1, 1) := by decide +kernel
theorem dX12_heardOf_36 : decode cX12_heardOf 36 = .ok (.iaload, 1) := by decide +kernel
theorem dX12_heardOf_37 : decode cX12_heardOf 37 = .ok (.i2l, 1) := by decide +kernel
theorem dX12_heardOf_38 : decode cX12_heardOf 38 = .ok (.goto 24, 3) := by decide +kernel
theorem dX12_heardOf_41 : decode cX12_heardOf 41 = .ok (.iload_n 2, 1) := by decide +kernel
theorem dX12_heardOf_42 : decode cX12_heardOf 42 = .ok (.iconst 1, 1) := by decide +kernel
theorem dX12_heardOf_43 : decode cX12_heardOf 43 = .ok (.if_icmp .ne 12, 3) := by decide +kernel
theorem dX12_heardOf_46 : decode cX12_heardOf 46 = .ok (.aload_n 0, 1) := by decide +kernel
theorem dX12_heardOf_47 : decode cX12_heardOf 47 = .ok (.getfield 51, 3) := by decide +kernel
theorem dX12_heardOf_50 : decode cX12_heardOf 50 = .ok (.iload_n 1, 1) := by decide +kernel
theorem dX12_heardOf_51 : decode cX12_heardOf 51 = .ok (.laload, 1) := by decide +kernel
theorem dX12_heardOf_52 : decode cX12_heardOf 52 = .ok (.goto 10, 3) := by decide +kernel
theorem dX12_heardOf_55 : decode cX12_heardOf 55 = .ok (.aload_n 0, 1) := by decide +kernel
theorem dX12_heardOf_56 : decode cX12_heardOf 56 = .ok (.getfield 57, 3) := by decide +kernel
theorem dX12_heardOf_59 : decode cX12_heardOf 59 = .ok (.iload_n 1, 1) := by decide +kernel
theorem dX12_heardOf_60 : decode cX12_heardOf 60 = .ok (.iaload, 1) := by decide +kernel
theorem dX12_heardOf_61 : decode cX12_heardOf 61 = .ok (.i2l, 1) := by decide +kernel
theorem dX12_heardOf_62 : decode cX12_heardOf 62 = .ok (.lreturn, 1) := by decide +kernel
set_option maxRecDepth 20000 in
theorem ggX12_heard_X12_in : GoodIn wsX12_heard wsX12_in := goodIn_r _ [5] (by decide +kernel) (by decide +kernel)
set_option maxRecDepth 20000 in
theorem gX12_heard_X12_in : GoodIn wsX12_heard (va_wsS RX12 70 yX12_in wsX12_in) := goodIn_app (goodIn_of _ (by decide +kernel)) ggX12_heard_X12_in
set_option maxRecDepth 20000 in
theorem ggX12_heard_X12_heardOf : GoodIn wsX12_heard wsX12_heardOf := goodIn_r _ [9, 10, 11, 12, 13, 14, 15, 16, 17, 18, 19, 20, 21, 22, 23, 24, 25, 26, 27, 28, 29, 30, 31, 32, 33, 34, 35, 36, 37, 38, 39, 40, 41] (by decide +kernel) (by decide +kernel)
set_option maxRecDepth 20000 in
theorem gX12_heard_X12_heardOf : GoodIn wsX12_heard (wsV RX12 215 RX12 yX12_heardOf wsX12_heardOf) := goodIn_app (goodIn_of _ (by decide +kernel)) ggX12_heard_X12_heardOf
theorem dX12_heard_0 : decode cX12_heard 0 = .ok (.iload_n 1, 1) := by decide +kernel
theorem dX12_heard_1 : decode cX12_heard 1 = .ok (.iconst 0, 1) := by decide +kernel
theorem dX12_heard_2 : decode cX12_heard 2 = .ok (.bipush 11, 2) := by decide +kernel
theorem dX12_heard_4 : decode cX12_heard 4 = .ok (.invokestatic 70, 3) := by decide +kernel
theorem dX12_heard_7 : decode cX12_heard 7 = .ok (.ifCond .eq 21, 3) := by decide +kernel
theorem dX12_heard_10 : decode cX12_heard 10 = .ok (.iload_n 2, 1) := by decide +kernel
theorem dX12_heard_11 : decode cX12_heard 11 = .ok (.iconst 0, 1) := by decide +kernel
theorem dX12_heard_12 : decode cX12_heard 12 = .ok (.iconst 3, 1) := by decide +kernel
theorem dX12_heard_13 : decode cX12_heard 13 = .ok (.invokestatic 70, 3) := by decide +kernel
theorem dX12_heard_16 : decode cX12_heard 16 = .ok (.ifCond .eq 12, 3) := by decide +kernel
theorem dX12_heard_19 : decode cX12_heard 19 = .ok (.aload_n 0, 1) := by decide +kernel
theorem dX12_heard_20 : decode cX12_heard 20 = .ok (.iload_n 1, 1) := by decide +kernel
theorem dX12_heard_21 : decode cX12_heard 21 = .ok (.iload_n 2, 1) := by decide +kernel
theorem dX12_heard_22 : decode cX12_heard 22 = .ok (.invokevirtual 215, 3) := by decide +kernel
theorem dX12_heard_25 : decode cX12_heard 25 = .ok (.goto 6, 3) := by decide +kernel
theorem dX12_heard_28 : decode cX12_heard 28 = .ok (.ldc2_w 207, 3) := by decide +kernel
theorem dX12_heard_31 : decode cX12_heard 31 = .ok (.lreturn, 1) := by decide +kernel
theorem dX12_echo_0 : decode cX12_echo 0 = .ok (.iload_n 1, 1) := by decide +kernel
theorem dX12_echo_1 : decode cX12_echo 1 = .ok (.ifCond .ge 6, 3) := by decide +kernel
theorem dX12_echo_4 : decode cX12_echo 4 = .ok (.ldc 78, 2) := by decide +kernel
theorem dX12_echo_6 : decode cX12_echo 6 = .ok (.ireturn, 1) := by decide +kernel
theorem dX12_echo_7 : decode cX12_echo 7 = .ok (.iload_n 1, 1) := by decide +kernel
theorem dX12_echo_8 : decode cX12_echo 8 = .ok (.istore_n 2, 1) := by decide +kernel
theorem dX12_echo_9 : decode cX12_echo 9 = .ok (.iconst 0, 1) := by decide +kernel
theorem dX12_echo_10 : decode cX12_echo 10 = .ok (.istore_n 3, 1) := by decide +kernel
theorem dX12_echo_11 : decode cX12_echo 11 = .ok (.iload_n 3, 1) := by decide +kernel
theorem dX12_echo_12 : decode cX12_echo 12 = .ok (.aload_n 0, 1) := by decide +kernel
theorem dX12_echo_13 : decode cX12_echo 13 = .ok (.getfield 172, 3) := by decide +kernel
theorem dX12_echo_16 : decode cX12_echo 16 = .ok (.if_icmp .ge 27, 3) := by decide +kernel
theorem dX12_echo_19 : decode cX12_echo 19 = .ok (.aload_n 0, 1) := by decide +kernel
theorem dX12_echo_20 : decode cX12_echo 20 = .ok (.getfield 45, 3) := by decide +kernel
theorem dX12_echo_23 : decode cX12_echo 23 = .ok (.iload_n 3, 1) := by decide +kernel
theorem dX12_echo_24 : decode cX12_echo 24 = .ok (.baload, 1) := by decide +kernel
theorem dX12_echo_25 : decode cX12_echo 25 = .ok (.ifCond .eq 12, 3) := by decide +kernel
theorem dX12_echo_28 : decode cX12_echo 28 = .ok (.iload_n 2, 1) := by decide +kernel
theorem dX12_echo_29 : decode cX12_echo 29 = .ok (.ifCond .ne 5, 3) := by decide +kernel
theorem dX12_echo_32 : decode cX12_echo 32 = .ok (.iload_n 3, 1) := by decide +kernel
theorem dX12_echo_33 : decode cX12_echo 33 = .ok (.ireturn, 1) := by decide +kernel
theorem dX12_echo_34 : decode cX12_echo 34 = .ok (.iinc 2 (-1), 3) := by decide +kernel
theorem dX12_echo_37 : decode cX12_echo 37 = .ok (.iinc 3 1, 3) := by decide +kernel
theorem dX12_echo_40 : decode cX12_echo 40 = .ok (.goto (-29), 3) := by decide +kernel
theorem dX12_echo_43 : decode cX12_echo 43 = .ok (.ldc 168, 2) := by decide +kernel
theorem dX12_echo_45 : decode cX12_echo 45 = .ok (.ireturn, 1) := by decide +kernel
theorem dX12_mean_0 : decode cX12_mean 0 = .ok (.lconst 0, 1) := by decide +kernel
theorem dX12_mean_1 : decode cX12_mean 1 = .ok (.lstore_n 1, 1) := by decide +kernel
theorem dX12_mean_2 : decode cX12_mean 2 = .ok (.iconst 0, 1) := by decide +kernel
theorem dX12_mean_3 : decode cX12_mean 3 = .ok (.istore_n 3, 1) := by decide +kernel
theorem dX12_mean_4 : decode cX12_mean 4 = .ok (.iload_n 3, 1) := by decide +kernel
theorem dX12_mean_5 : decode cX12_mean 5 = .ok (.aload_n 0, 1) := by decide +kernel
theorem dX12_mean_6 : decode cX12_mean 6 = .ok (.getfield 172, 3) := by decide +kernel
theorem dX12_mean_9 : decode cX12_mean 9 = .ok (.if_icmp .ge 22, 3) := by decide +kernel
theorem dX12_mean_12 : decode cX12_mean 12 = .ok (.lload_n 1, 1) := by decide +kernel
theorem dX12_mean_13 : decode cX12_mean 13 = .ok (.aload_n 0, 1) := by decide +kernel
theorem dX12_mean_14 : decode cX12_mean 14 = .ok (.getfield 42, 3) := by decide +kernel
theorem dX12_mean_17 : decode cX12_mean 17 = .ok (.iconst 5, 1) := by decide +kernel
theorem dX12_mean_18 : decode cX12_mean 18 = .ok (.iload_n 3, 1) := by decide +kernel
theorem dX12_mean_19 : decode cX12_mean 19 = .ok (.imul, 1) := by decide +kernel
theorem dX12_mean_20 : decode cX12_mean 20 = .ok (.iconst 3, 1) := by decide +kernel
theorem dX12_mean_21 : decode cX12_mean 21 = .ok (.iadd, 1) := by decide +kernel
theorem dX12_mean_22 : decode cX12_mean 22 = .ok (.laload, 1) := by decide +kernel
theorem dX12_mean_23 : decode cX12_mean 23 = .ok (.ladd, 1) := by decide +kernel
theorem dX12_mean_24 : decode cX12_mean 24 = .ok (.lstore_n 1, 1) := by decide +kernel
theorem dX12_mean_25 : decode cX12_mean 25 = .ok (.iinc 3 1, 3) := by decide +kernel
theorem dX12_mean_28 : decode cX12_mean 28 = .ok (.goto (-24), 3) := by decide +kernel
theorem dX12_mean_31 : decode cX12_mean 31 = .ok (.aload_n 0, 1) := by decide +kernel
theorem dX12_mean_32 : decode cX12_mean 32 = .ok (.getfield 172, 3) := by decide +kernel
theorem dX12_mean_35 : decode cX12_mean 35 = .ok (.ifCond .ne 7, 3) := by decide +kernel
theorem dX12_mean_38 : decode cX12_mean 38 = .ok (.fconst 0, 1) := by decide +kernel
theorem dX12_mean_39 : decode cX12_mean 39 = .ok (.goto 11, 3) := by decide +kernel
theorem dX12_mean_42 : decode cX12_mean 42 = .ok (.lload_n 1, 1) := by decide +kernel
theorem dX12_mean_43 : decode cX12_mean 43 = .ok (.l2f, 1) := by decide +kernel
theorem dX12_mean_44 : decode cX12_mean 44 = .ok (.aload_n 0, 1) := by decide +kernel
theorem dX12_mean_45 : decode cX12_mean 45 = .ok (.getfield 172, 3) := by decide +kernel
theorem dX12_mean_48 : decode cX12_mean 48 = .ok (.i2f, 1) := by decide +kernel
theorem dX12_mean_49 : decode cX12_mean 49 = .ok (.fdiv, 1) := by decide +kernel
theorem dX12_mean_50 : decode cX12_mean 50 = .ok (.freturn, 1) := by decide +kernel
theorem dX12_between_0 : decode cX12_between 0 = .ok (.iload_n 2, 1) := by decide +kernel
theorem dX12_between_1 : decode cX12_between 1 = .ok (.iload_n 0, 1) := by decide +kernel
theorem dX12_between_2 : decode cX12_between 2 = .ok (.isub, 1) := by decide +kernel
theorem dX12_between_3 : decode cX12_between 3 = .ok (.sipush 27720, 3) := by decide +kernel
theorem dX12_between_6 : decode cX12_between 6 = .ok (.iadd, 1) := by decide +kernel
theorem dX12_between_7 : decode cX12_between 7 = .ok (.sipush 27720, 3) := by decide +kernel
theorem dX12_between_10 : decode cX12_between 10 = .ok (.irem, 1) := by decide +kernel
theorem dX12_between_11 : decode cX12_between 11 = .ok (.iload_n 1, 1) := by decide +kernel
theorem dX12_between_12 : decode cX12_between 12 = .ok (.iload_n 0, 1) := by decide +kernel
theorem dX12_between_13 : decode cX12_between 13 = .ok (.isub, 1) := by decide +kernel
theorem dX12_between_14 : decode cX12_between 14 = .ok (.sipush 27720, 3) := by decide +kernel
theorem dX12_between_17 : decode cX12_between 17 = .ok (.iadd, 1) := by decide +kernel
theorem dX12_between_18 : decode cX12_between 18 = .ok (.sipush 27720, 3) := by decide +kernel
theorem dX12_between_21 : decode cX12_between 21 = .ok (.irem, 1) := by decide +kernel
theorem dX12_between_22 : decode cX12_between 22 = .ok (.if_icmp .ge 7, 3) := by decide +kernel
theorem dX12_between_25 : decode cX12_between 25 = .ok (.iconst 1, 1) := by decide +kernel
theorem dX12_between_26 : decode cX12_between 26 = .ok (.goto 4, 3) := by decide +kernel
theorem dX12_between_29 : decode cX12_between 29 = .ok (.iconst 0, 1) := by decide +kernel
theorem dX12_between_30 : decode cX12_between 30 = .ok (.ireturn, 1) := by decide +kernel
set_option maxRecDepth 20000 in
theorem ggX12_crosses_X12_between : GoodIn wsX12_crosses wsX12_between := goodIn_r _ [5] (by decide +kernel) (by decide +kernel)
set_option maxRecDepth 20000 in
theorem gX12_crosses_X12_between : GoodIn wsX12_crosses (va_wsS RX12 219 yX12_between wsX12_between) := goodIn_app (goodIn_of _ (by decide +kernel)) ggX12_crosses_X12_between
theorem dX12_crosses_0 : decode cX12_crosses 0 = .ok (.aload_n 0, 1) := by decide +kernel
theorem dX12_crosses_1 : decode cX12_crosses 1 = .ok (.getfield 63, 3) := by decide +kernel
theorem dX12_crosses_4 : decode cX12_crosses 4 = .ok (.iload_n 1, 1) := by decide +kernel
theorem dX12_crosses_5 : decode cX12_crosses 5 = .ok (.iaload, 1) := by decide +kernel
theorem dX12_crosses_6 : decode cX12_crosses 6 = .ok (.istore_n 3, 1) := by decide +kernel
theorem dX12_crosses_7 : decode cX12_crosses 7 = .ok (.aload_n 0, 1) := by decide +kernel
theorem dX12_crosses_8 : decode cX12_crosses 8 = .ok (.getfield 63, 3) := by decide +kernel
theorem dX12_crosses_11 : decode cX12_crosses 11 = .ok (.iload_n 1, 1) := by decide +kernel
theorem dX12_crosses_12 : decode cX12_crosses 12 = .ok (.iconst 1, 1) := by decide +kernel
theorem dX12_crosses_13 : decode cX12_crosses 13 = .ok (.iadd, 1) := by decide +kernel
theorem dX12_crosses_14 : decode cX12_crosses 14 = .ok (.iaload, 1) := by decide +kernel
theorem dX12_crosses_15 : decode cX12_crosses 15 = .ok (.istore 4, 2) := by decide +kernel
theorem dX12_crosses_17 : decode cX12_crosses 17 = .ok (.aload_n 0, 1) := by decide +kernel
theorem dX12_crosses_18 : decode cX12_crosses 18 = .ok (.getfield 63, 3) := by decide +kernel
theorem dX12_crosses_21 : decode cX12_crosses 21 = .ok (.iload_n 2, 1) := by decide +kernel
theorem dX12_crosses_22 : decode cX12_crosses 22 = .ok (.iaload, 1) := by decide +kernel
theorem dX12_crosses_23 : decode cX12_crosses 23 = .ok (.istore 5, 2) := by decide +kernel
theorem dX12_crosses_25 : decode cX12_crosses 25 = .ok (.aload_n 0, 1) := by decide +kernel
theorem dX12_crosses_26 : decode cX12_crosses 26 = .ok (.getfield 63, 3) := by decide +kernel
theorem dX12_crosses_29 : decode cX12_crosses 29 = .ok (.iload_n 2, 1) := by decide +kernel
theorem dX12_crosses_30 : decode cX12_crosses 30 = .ok (.iconst 1, 1) := by decide +kernel
theorem dX12_crosses_31 : decode cX12_crosses 31 = .ok (.iadd, 1) := by decide +kernel
theorem dX12_crosses_32 : decode cX12_crosses 32 = .ok (.iaload, 1) := by decide +kernel
theorem dX12_crosses_33 : decode cX12_crosses 33 = .ok (.istore 6, 2) := by decide +kernel
theorem dX12_crosses_35 : decode cX12_crosses 35 = .ok (.iload_n 3, 1) := by decide +kernel
theorem dX12_crosses_36 : decode cX12_crosses 36 = .ok (.iload 5, 2) := by decide +kernel
theorem dX12_crosses_38 : decode cX12_crosses 38 = .ok (.if_icmp .eq 27, 3) := by decide +kernel
theorem dX12_crosses_41 : decode cX12_crosses 41 = .ok (.iload_n 3, 1) := by decide +kernel
theorem dX12_crosses_42 : decode cX12_crosses 42 = .ok (.iload 6, 2) := by decide +kernel
theorem dX12_crosses_44 : decode cX12_crosses 44 = .ok (.if_icmp .eq 21, 3) := by decide +kernel
theorem dX12_crosses_47 : decode cX12_crosses 47 = .ok (.iload 4, 2) := by decide +kernel
theorem dX12_crosses_49 : decode cX12_crosses 49 = .ok (.iload 5, 2) := by decide +kernel
theorem dX12_crosses_51 : decode cX12_crosses 51 = .ok (.if_icmp .eq 14, 3) := by decide +kernel
theorem dX12_crosses_54 : decode cX12_crosses 54 = .ok (.iload 4, 2) := by decide +kernel
theorem dX12_crosses_56 : decode cX12_crosses 56 = .ok (.iload 6, 2) := by decide +kernel
theorem dX12_crosses_58 : decode cX12_crosses 58 = .ok (.if_icmp .eq 7, 3) := by decide +kernel
theorem dX12_crosses_61 : decode cX12_crosses 61 = .ok (.iconst 1, 1) := by decide +kernel
theorem dX12_crosses_62 : decode cX12_crosses 62 = .ok (.goto 4, 3) := by decide +kernel
theorem dX12_crosses_65 : decode cX12_crosses 65 = .ok (.iconst 0, 1) := by decide +kernel
theorem dX12_crosses_66 : decode cX12_crosses 66 = .ok (.istore 7, 2) := by decide +kernel
theorem dX12_crosses_68 : decode cX12_crosses 68 = .ok (.iload 7, 2) := by decide +kernel
theorem dX12_crosses_70 : decode cX12_crosses 70 = .ok (.ifCond .eq 26, 3) := by decide +kernel
theorem dX12_crosses_73 : decode cX12_crosses 73 = .ok (.iload_n 3, 1) := by decide +kernel
theorem dX12_crosses_74 : decode cX12_crosses 74 = .ok (.iload 4, 2) := by decide +kernel
theorem dX12_crosses_76 : decode cX12_crosses 76 = .ok (.iload 5, 2) := by decide +kernel
theorem dX12_crosses_78 : decode cX12_crosses 78 = .ok (.invokestatic 219, 3) := by decide +kernel
theorem dX12_crosses_81 : decode cX12_crosses 81 = .ok (.iload_n 3, 1) := by decide +kernel
theorem dX12_crosses_82 : decode cX12_crosses 82 = .ok (.iload 4, 2) := by decide +kernel
theorem dX12_crosses_84 : decode cX12_crosses 84 = .ok (.iload 6, 2) := by decide +kernel
theorem dX12_crosses_86 : decode cX12_crosses 86 = .ok (.invokestatic 219, 3) := by decide +kernel
theorem dX12_crosses_89 : decode cX12_crosses 89 = .ok (.if_icmp .eq 7, 3) := by decide +kernel
theorem dX12_crosses_92 : decode cX12_crosses 92 = .ok (.iconst 1, 1) := by decide +kernel
theorem dX12_crosses_93 : decode cX12_crosses 93 = .ok (.goto 4, 3) := by decide +kernel
theorem dX12_crosses_96 : decode cX12_crosses 96 = .ok (.iconst 0, 1) := by decide +kernel
theorem dX12_crosses_97 : decode cX12_crosses 97 = .ok (.ireturn, 1) := by decide +kernel
set_option maxRecDepth 20000 in
theorem ggX12_crossings_X12_in : GoodIn wsX12_crossings wsX12_in := goodIn_r _ [9] (by decide +kernel) (by decide +kernel)
set_option maxRecDepth 20000 in
theorem gX12_crossings_X12_in : GoodIn wsX12_crossings (va_wsS RX12 70 yX12_in wsX12_in) := goodIn_app (goodIn_of _ (by decide +kernel)) ggX12_crossings_X12_in
set_option maxRecDepth 20000 in
theorem ggX12_crossings_X12_crosses : GoodIn wsX12_crossings wsX12_crosses := goodIn_r _ [13, 2, 14, 15, 8, 16, 17, 18, 19, 20, 21, 22, 23, 24, 25, 26, 27, 28, 29, 30, 31, 32, 33, 34, 35, 36, 37, 38, 39, 40, 41, 42, 43] (by decide +kernel) (by decide +kernel)
set_option maxRecDepth 20000 in
theorem gX12_crossings_X12_crosses : GoodIn wsX12_crossings (wsV RX12 222 RX12 yX12_crosses wsX12_crosses) := goodIn_app (goodIn_of _ (by decide +kernel)) ggX12_crossings_X12_crosses
theorem dX12_crossings_0 : decode cX12_crossings 0 = .ok (.iload_n 1, 1) := by decide +kernel
theorem dX12_crossings_1 : decode cX12_crossings 1 = .ok (.iconst 0, 1) := by decide +kernel
theorem dX12_crossings_2 : decode cX12_crossings 2 = .ok (.sipush 200, 3) := by decide +kernel
theorem dX12_crossings_5 : decode cX12_crossings 5 = .ok (.invokestatic 70, 3) := by decide +kernel
theorem dX12_crossings_8 : decode cX12_crossings 8 = .ok (.ifCond .ne 6, 3) := by decide +kernel
theorem dX12_crossings_11 : decode cX12_crossings 11 = .ok (.ldc 78, 2) := by decide +kernel
theorem dX12_crossings_13 : decode cX12_crossings 13 = .ok (.ireturn, 1) := by decide +kernel
theorem dX12_crossings_14 : decode cX12_crossings 14 = .ok (.iconst 0, 1) := by decide +kernel
theorem dX12_crossings_15 : decode cX12_crossings 15 = .ok (.istore_n 2, 1) := by decide +kernel
theorem dX12_crossings_16 : decode cX12_crossings 16 = .ok (.aload_n 0, 1) := by decide +kernel
theorem dX12_crossings_17 : decode cX12_crossings 17 = .ok (.getfield 63, 3) := by decide +kernel
theorem dX12_crossings_20 : decode cX12_crossings 20 = .ok (.iconst 0, 1) := by decide +kernel
theorem dX12_crossings_21 : decode cX12_crossings 21 = .ok (.aload_n 0, 1) := by decide +kernel
theorem dX12_crossings_22 : decode cX12_crossings 22 = .ok (.getfield 197, 3) := by decide +kernel
theorem dX12_crossings_25 : decode cX12_crossings 25 = .ok (.iastore, 1) := by decide +kernel
theorem dX12_crossings_26 : decode cX12_crossings 26 = .ok (.iconst 0, 1) := by decide +kernel
theorem dX12_crossings_27 : decode cX12_crossings 27 = .ok (.istore_n 3, 1) := by decide +kernel
theorem dX12_crossings_28 : decode cX12_crossings 28 = .ok (.iload_n 3, 1) := by decide +kernel
theorem dX12_crossings_29 : decode cX12_crossings 29 = .ok (.aload_n 0, 1) := by decide +kernel
theorem dX12_crossings_30 : decode cX12_crossings 30 = .ok (.getfield 172, 3) := by decide +kernel
theorem dX12_crossings_33 : decode cX12_crossings 33 = .ok (.if_icmp .ge 47, 3) := by decide +kernel
theorem dX12_crossings_36 : decode cX12_crossings 36 = .ok (.iload_n 2, 1) := by decide +kernel
theorem dX12_crossings_37 : decode cX12_crossings 37 = .ok (.iload_n 1, 1) := by decide +kernel
theorem dX12_crossings_38 : decode cX12_crossings 38 = .ok (.if_icmp .ge 42, 3) := by decide +kernel
theorem dX12_crossings_41 : decode cX12_crossings 41 = .ok (.aload_n 0, 1) := by decide +kernel
theorem dX12_crossings_42 : decode cX12_crossings 42 = .ok (.getfield 42, 3) := by decide +kernel
theorem dX12_crossings_45 : decode cX12_crossings 45 = .ok (.iconst 5, 1) := by decide +kernel
theorem dX12_crossings_46 : decode cX12_crossings 46 = .ok (.iload_n 3, 1) := by decide +kernel
theorem dX12_crossings_47 : decode cX12_crossings 47 = .ok (.imul, 1) := by decide +kernel
theorem dX12_crossings_48 : decode cX12_crossings 48 = .ok (.laload, 1) := by decide +kernel
theorem dX12_crossings_49 : decode cX12_crossings 49 = .ok (.lconst 0, 1) := by decide +kernel
theorem dX12_crossings_50 : decode cX12_crossings 50 = .ok (.lcmp, 1) := by decide +kernel
theorem dX12_crossings_51 : decode cX12_crossings 51 = .ok (.ifCond .ne 23, 3) := by decide +kernel
theorem dX12_crossings_54 : decode cX12_crossings 54 = .ok (.iinc 2 1, 3) := by decide +kernel
theorem dX12_crossings_57 : decode cX12_crossings 57 = .ok (.aload_n 0, 1) := by decide +kernel
theorem dX12_crossings_58 : decode cX12_crossings 58 = .ok (.getfield 63, 3) := by decide +kernel
theorem dX12_crossings_61 : decode cX12_crossings 61 = .ok (.iload_n 2, 1) := by decide +kernel
theorem dX12_crossings_62 : decode cX12_crossings 62 = .ok (.aload_n 0, 1) := by decide +kernel
theorem dX12_crossings_63 : decode cX12_crossings 63 = .ok (.getfield 42, 3) := by decide +kernel
theorem dX12_crossings_66 : decode cX12_crossings 66 = .ok (.iconst 5, 1) := by decide +kernel
theorem dX12_crossings_67 : decode cX12_crossings 67 = .ok (.iload_n 3, 1) := by decide +kernel
theorem dX12_crossings_68 : decode cX12_crossings 68 = .ok (.imul, 1) := by decide +kernel
theorem dX12_crossings_69 : decode cX12_crossings 69 = .ok (.iconst 1, 1) := by decide +kernel
theorem dX12_crossings_70 : decode cX12_crossings 70 = .ok (.iadd, 1) := by decide +kernel
theorem dX12_crossings_71 : decode cX12_crossings 71 = .ok (.laload, 1) := by decide +kernel
theorem dX12_crossings_72 : decode cX12_crossings 72 = .ok (.l2i, 1) := by decide +kernel
theorem dX12_crossings_73 : decode cX12_crossings 73 = .ok (.iastore, 1) := by decide +kernel
theorem dX12_crossings_74 : decode cX12_crossings 74 = .ok (.iinc 3 1, 3) := by decide +kernel
theorem dX12_crossings_77 : decode cX12_crossings 77 = .ok (.goto (-49), 3) := by decide +kernel
theorem dX12_crossings_80 : decode cX12_crossings 80 = .ok (.iconst 0, 1) := by decide +kernel
theorem dX12_crossings_81 : decode cX12_crossings 81 = .ok (.istore_n 3, 1) := by decide +kernel
theorem dX12_crossings_82 : decode cX12_crossings 82 = .ok (.iconst 0, 1) := by decide +kernel
theorem dX12_crossings_83 : decode cX12_crossings 83 = .ok (.istore 4, 2) := by decide +kernel
theorem dX12_crossings_85 : decode cX12_crossings 85 = .ok (.iload 4, 2) := by decide +kernel
theorem dX12_crossings_87 : decode cX12_crossings 87 = .ok (.iload_n 2, 1) := by decide +kernel
theorem dX12_crossings_88 : decode cX12_crossings 88 = .ok (.if_icmp .ge 46, 3) := by decide +kernel
theorem dX12_crossings_91 : decode cX12_crossings 91 = .ok (.iload 4, 2) := by decide +kernel
theorem dX12_crossings_93 : decode cX12_crossings 93 = .ok (.iconst 1, 1) := by decide +kernel
theorem dX12_crossings_94 : decode cX12_crossings 94 = .ok (.iadd, 1) := by decide +kernel
theorem dX12_crossings_95 : decode cX12_crossings 95 = .ok (.istore 5, 2) := by decide +kernel
theorem dX12_crossings_97 : decode cX12_crossings 97 = .ok (.iload 5, 2) := by decide +kernel
theorem dX12_crossings_99 : decode cX12_crossings 99 = .ok (.iload_n 2, 1) := by decide +kernel
theorem dX12_crossings_100 : decode cX12_crossings 100 = .ok (.if_icmp .ge 28, 3) := by decide +kernel
theorem dX12_crossings_103 : decode cX12_crossings 103 = .ok (.iload_n 3, 1) := by decide +kernel
theorem dX12_crossings_104 : decode cX12_crossings 104 = .ok (.aload_n 0, 1) := by decide +kernel
theorem dX12_crossings_105 : decode cX12_crossings 105 = .ok (.iload 4, 2) := by decide +kernel
theorem dX12_crossings_107 : decode cX12_crossings 107 = .ok (.iload 5, 2) := by decide +kernel
theorem dX12_crossings_109 : decode cX12_crossings 109 = .ok (.invokevirtual 222, 3) := by decide +kernel
theorem dX12_crossings_112 : decode cX12_crossings 112 = .ok (.ifCond .eq 7, 3) := by decide +kernel
theorem dX12_crossings_115 : decode cX12_crossings 115 = .ok (.iconst 1, 1) := by decide +kernel
theorem dX12_crossings_116 : decode cX12_crossings 116 = .ok (.goto 4, 3) := by decide +kernel
theorem dX12_crossings_119 : decode cX12_crossings 119 = .ok (.iconst 0, 1) := by decide +kernel
theorem dX12_crossings_120 : decode cX12_crossings 120 = .ok (.iadd, 1) := by decide +kernel
theorem dX12_crossings_121 : decode cX12_crossings 121 = .ok (.istore_n 3, 1) := by decide +kernel
theorem dX12_crossings_122 : decode cX12_crossings 122 = .ok (.iinc 5 1, 3) := by decide +kernel
theorem dX12_crossings_125 : decode cX12_crossings 125 = .ok (.goto (-28), 3) := by decide +kernel
theorem dX12_crossings_128 : decode cX12_crossings 128 = .ok (.iinc 4 1, 3) := by decide +kernel
theorem dX12_crossings_131 : decode cX12_crossings 131 = .ok (.goto (-46), 3) := by decide +kernel
theorem dX12_crossings_134 : decode cX12_crossings 134 = .ok (.iload_n 3, 1) := by decide +kernel
theorem dX12_crossings_135 : decode cX12_crossings 135 = .ok (.ireturn, 1) := by decide +kernel
theorem dX12_undo_0 : decode cX12_undo 0 = .ok (.aload_n 0, 1) := by decide +kernel
theorem dX12_undo_1 : decode cX12_undo 1 = .ok (.getfield 66, 3) := by decide +kernel
theorem dX12_undo_4 : decode cX12_undo 4 = .ok (.ifCond .ne 6, 3) := by decide +kernel
theorem dX12_undo_7 : decode cX12_undo 7 = .ok (.ldc 168, 2) := by decide +kernel
theorem dX12_undo_9 : decode cX12_undo 9 = .ok (.ireturn, 1) := by decide +kernel
theorem dX12_undo_10 : decode cX12_undo 10 = .ok (.aload_n 0, 1) := by decide +kernel
theorem dX12_undo_11 : decode cX12_undo 11 = .ok (.dup, 1) := by decide +kernel
theorem dX12_undo_12 : decode cX12_undo 12 = .ok (.getfield 66, 3) := by decide +kernel
theorem dX12_undo_15 : decode cX12_undo 15 = .ok (.iconst 1, 1) := by decide +kernel
theorem dX12_undo_16 : decode cX12_undo 16 = .ok (.isub, 1) := by decide +kernel
theorem dX12_undo_17 : decode cX12_undo 17 = .ok (.putfield 66, 3) := by decide +kernel
theorem dX12_undo_20 : decode cX12_undo 20 = .ok (.iconst 0, 1) := by decide +kernel
theorem dX12_undo_21 : decode cX12_undo 21 = .ok (.istore_n 1, 1) := by decide +kernel
theorem dX12_undo_22 : decode cX12_undo 22 = .ok (.iload_n 1, 1) := by decide +kernel
theorem dX12_undo_23 : decode cX12_undo 23 = .ok (.bipush 60, 2) := by decide +kernel
theorem dX12_undo_25 : decode cX12_undo 25 = .ok (.if_icmp .ge 29, 3) := by decide +kernel
theorem dX12_undo_28 : decode cX12_undo 28 = .ok (.aload_n 0, 1) := by decide +kernel
theorem dX12_undo_29 : decode cX12_undo 29 = .ok (.getfield 7, 3) := by decide +kernel
theorem dX12_undo_32 : decode cX12_undo 32 = .ok (.iload_n 1, 1) := by decide +kernel
theorem dX12_undo_33 : decode cX12_undo 33 = .ok (.aload_n 0, 1) := by decide +kernel
theorem dX12_undo_34 : decode cX12_undo 34 = .ok (.getfield 13, 3) := by decide +kernel
theorem dX12_undo_37 : decode cX12_undo 37 = .ok (.bipush 60, 2) := by decide +kernel
theorem dX12_undo_39 : decode cX12_undo 39 = .ok (.aload_n 0, 1) := by decide +kernel
theorem dX12_undo_40 : decode cX12_undo 40 = .ok (.getfield 66, 3) := by decide +kernel
theorem dX12_undo_43 : decode cX12_undo 43 = .ok (.imul, 1) := by decide +kernel
theorem dX12_undo_44 : decode cX12_undo 44 = .ok (.iload_n 1, 1) := by decide +kernel
theorem dX12_undo_45 : decode cX12_undo 45 = .ok (.iadd, 1) := by decide +kernel
theorem dX12_undo_46 : decode cX12_undo 46 = .ok (.iaload, 1) := by decide +kernel
theorem dX12_undo_47 : decode cX12_undo 47 = .ok (.iastore, 1) := by decide +kernel
theorem dX12_undo_48 : decode cX12_undo 48 = .ok (.iinc 1 1, 3) := by decide +kernel
theorem dX12_undo_51 : decode cX12_undo 51 = .ok (.goto (-29), 3) := by decide +kernel
theorem dX12_undo_54 : decode cX12_undo 54 = .ok (.aload_n 0, 1) := by decide +kernel
theorem dX12_undo_55 : decode cX12_undo 55 = .ok (.getfield 66, 3) := by decide +kernel
theorem dX12_undo_58 : decode cX12_undo 58 = .ok (.ireturn, 1) := by decide +kernel
set_option maxRecDepth 20000 in
theorem ggX12_fingerprint_X12_covered : GoodIn wsX12_fingerprint wsX12_covered := goodIn_r _ [11, 12, 4, 6, 22, 23, 24, 25, 26, 27, 28, 29, 30, 31, 32, 33, 34, 35, 36, 37, 38, 39, 40, 41, 42, 43, 44, 45, 46, 47, 48] (by decide +kernel) (by decide +kernel)
set_option maxRecDepth 20000 in
theorem gX12_fingerprint_X12_covered : GoodIn wsX12_fingerprint (wsV RX12 209 RX12 yX12_covered wsX12_covered) := goodIn_app (goodIn_of _ (by decide +kernel)) ggX12_fingerprint_X12_covered
set_option maxRecDepth 20000 in
theorem ggX12_fingerprint_X12_heardOf : GoodIn wsX12_fingerprint wsX12_heardOf := goodIn_r _ [16, 17, 18, 19, 20, 21, 22, 23, 24, 25, 26, 27, 28, 29, 30, 31, 32, 33, 34, 35, 36, 37, 38, 39, 40, 41, 42, 43, 44, 45, 46, 47, 48] (by decide +kernel) (by decide +kernel)
set_option maxRecDepth 20000 in
theorem gX12_fingerprint_X12_heardOf : GoodIn wsX12_fingerprint (wsV RX12 215 RX12 yX12_heardOf wsX12_heardOf) := goodIn_app (goodIn_of _ (by decide +kernel)) ggX12_fingerprint_X12_heardOf
theorem dX12_fingerprint_0 : decode cX12_fingerprint 0 = .ok (.ldc2_w 225, 3) := by decide +kernel
theorem dX12_fingerprint_3 : decode cX12_fingerprint 3 = .ok (.aload_n 0, 1) := by decide +kernel
theorem dX12_fingerprint_4 : decode cX12_fingerprint 4 = .ok (.getfield 7, 3) := by decide +kernel
theorem dX12_fingerprint_7 : decode cX12_fingerprint 7 = .ok (.iconst 0, 1) := by decide +kernel
theorem dX12_fingerprint_8 : decode cX12_fingerprint 8 = .ok (.iaload, 1) := by decide +kernel
theorem dX12_fingerprint_9 : decode cX12_fingerprint 9 = .ok (.i2l, 1) := by decide +kernel
theorem dX12_fingerprint_10 : decode cX12_fingerprint 10 = .ok (.ladd, 1) := by decide +kernel
theorem dX12_fingerprint_11 : decode cX12_fingerprint 11 = .ok (.lstore_n 1, 1) := by decide +kernel
theorem dX12_fingerprint_12 : decode cX12_fingerprint 12 = .ok (.iconst 0, 1) := by decide +kernel
theorem dX12_fingerprint_13 : decode cX12_fingerprint 13 = .ok (.istore_n 3, 1) := by decide +kernel
theorem dX12_fingerprint_14 : decode cX12_fingerprint 14 = .ok (.iload_n 3, 1) := by decide +kernel
theorem dX12_fingerprint_15 : decode cX12_fingerprint 15 = .ok (.iconst 4, 1) := by decide +kernel
theorem dX12_fingerprint_16 : decode cX12_fingerprint 16 = .ok (.aload_n 0, 1) := by decide +kernel
theorem dX12_fingerprint_17 : decode cX12_fingerprint 17 = .ok (.getfield 7, 3) := by decide +kernel
theorem dX12_fingerprint_20 : decode cX12_fingerprint 20 = .ok (.iconst 0, 1) := by decide +kernel
theorem dX12_fingerprint_21 : decode cX12_fingerprint 21 = .ok (.iaload, 1) := by decide +kernel
theorem dX12_fingerprint_22 : decode cX12_fingerprint 22 = .ok (.imul, 1) := by decide +kernel
theorem dX12_fingerprint_23 : decode cX12_fingerprint 23 = .ok (.if_icmp .ge 25, 3) := by decide +kernel
theorem dX12_fingerprint_26 : decode cX12_fingerprint 26 = .ok (.ldc2_w 227, 3) := by decide +kernel
theorem dX12_fingerprint_29 : decode cX12_fingerprint 29 = .ok (.lload_n 1, 1) := by decide +kernel
theorem dX12_fingerprint_30 : decode cX12_fingerprint 30 = .ok (.lmul, 1) := by decide +kernel
theorem dX12_fingerprint_31 : decode cX12_fingerprint 31 = .ok (.aload_n 0, 1) := by decide +kernel
theorem dX12_fingerprint_32 : decode cX12_fingerprint 32 = .ok (.getfield 7, 3) := by decide +kernel
theorem dX12_fingerprint_35 : decode cX12_fingerprint 35 = .ok (.iconst 4, 1) := by decide +kernel
theorem dX12_fingerprint_36 : decode cX12_fingerprint 36 = .ok (.iload_n 3, 1) := by decide +kernel
theorem dX12_fingerprint_37 : decode cX12_fingerprint 37 = .ok (.iadd, 1) := by decide +kernel
theorem dX12_fingerprint_38 : decode cX12_fingerprint 38 = .ok (.iaload, 1) := by decide +kernel
theorem dX12_fingerprint_39 : decode cX12_fingerprint 39 = .ok (.i2l, 1) := by decide +kernel
theorem dX12_fingerprint_40 : decode cX12_fingerprint 40 = .ok (.ladd, 1) := by decide +kernel
theorem dX12_fingerprint_41 : decode cX12_fingerprint 41 = .ok (.lstore_n 1, 1) := by decide +kernel
theorem dX12_fingerprint_42 : decode cX12_fingerprint 42 = .ok (.iinc 3 1, 3) := by decide +kernel
theorem dX12_fingerprint_45 : decode cX12_fingerprint 45 = .ok (.goto (-31), 3) := by decide +kernel
theorem dX12_fingerprint_48 : decode cX12_fingerprint 48 = .ok (.ldc2_w 227, 3) := by decide +kernel
theorem dX12_fingerprint_51 : decode cX12_fingerprint 51 = .ok (.ldc2_w 227, 3) := by decide +kernel
theorem dX12_fingerprint_54 : decode cX12_fingerprint 54 = .ok (.ldc2_w 227, 3) := by decide +kernel
theorem dX12_fingerprint_57 : decode cX12_fingerprint 57 = .ok (.ldc2_w 227, 3) := by decide +kernel
theorem dX12_fingerprint_60 : decode cX12_fingerprint 60 = .ok (.ldc2_w 227, 3) := by decide +kernel
theorem dX12_fingerprint_63 : decode cX12_fingerprint 63 = .ok (.lload_n 1, 1) := by decide +kernel
theorem dX12_fingerprint_64 : decode cX12_fingerprint 64 = .ok (.lmul, 1) := by decide +kernel
theorem dX12_fingerprint_65 : decode cX12_fingerprint 65 = .ok (.aload_n 0, 1) := by decide +kernel
theorem dX12_fingerprint_66 : decode cX12_fingerprint 66 = .ok (.getfield 7, 3) := by decide +kernel
theorem dX12_fingerprint_69 : decode cX12_fingerprint 69 = .ok (.iconst 1, 1) := by decide +kernel
theorem dX12_fingerprint_70 : decode cX12_fingerprint 70 = .ok (.iaload, 1) := by decide +kernel
theorem dX12_fingerprint_71 : decode cX12_fingerprint 71 = .ok (.i2l, 1) := by decide +kernel
theorem dX12_fingerprint_72 : decode cX12_fingerprint 72 = .ok (.ladd, 1) := by decide +kernel
theorem dX12_fingerprint_73 : decode cX12_fingerprint 73 = .ok (.lmul, 1) := by decide +kernel
theorem dX12_fingerprint_74 : decode cX12_fingerprint 74 = .ok (.aload_n 0, 1) := by decide +kernel
theorem dX12_fingerprint_75 : decode cX12_fingerprint 75 = .ok (.getfield 7, 3) := by decide +kernel
theorem dX12_fingerprint_78 : decode cX12_fingerprint 78 = .ok (.iconst 2, 1) := by decide +kernel
theorem dX12_fingerprint_79 : decode cX12_fingerprint 79 = .ok (.iaload, 1) := by decide +kernel
theorem dX12_fingerprint_80 : decode cX12_fingerprint 80 = .ok (.i2l, 1) := by decide +kernel
theorem dX12_fingerprint_81 : decode cX12_fingerprint 81 = .ok (.ladd, 1) := by decide +kernel
theorem dX12_fingerprint_82 : decode cX12_fingerprint 82 = .ok (.lmul, 1) := by decide +kernel
theorem dX12_fingerprint_83 : decode cX12_fingerprint 83 = .ok (.aload_n 0, 1) := by decide +kernel
theorem dX12_fingerprint_84 : decode cX12_fingerprint 84 = .ok (.getfield 172, 3) := by decide +kernel
theorem dX12_fingerprint_87 : decode cX12_fingerprint 87 = .ok (.i2l, 1) := by decide +kernel
theorem dX12_fingerprint_88 : decode cX12_fingerprint 88 = .ok (.ladd, 1) := by decide +kernel
theorem dX12_fingerprint_89 : decode cX12_fingerprint 89 = .ok (.lmul, 1) := by decide +kernel
theorem dX12_fingerprint_90 : decode cX12_fingerprint 90 = .ok (.aload_n 0, 1) := by decide +kernel
theorem dX12_fingerprint_91 : decode cX12_fingerprint 91 = .ok (.getfield 169, 3) := by decide +kernel
theorem dX12_fingerprint_94 : decode cX12_fingerprint 94 = .ok (.i2l, 1) := by decide +kernel
theorem dX12_fingerprint_95 : decode cX12_fingerprint 95 = .ok (.ladd, 1) := by decide +kernel
theorem dX12_fingerprint_96 : decode cX12_fingerprint 96 = .ok (.lmul, 1) := by decide +kernel
theorem dX12_fingerprint_97 : decode cX12_fingerprint 97 = .ok (.aload_n 0, 1) := by decide +kernel
theorem dX12_fingerprint_98 : decode cX12_fingerprint 98 = .ok (.invokevirtual 209, 3) := by decide +kernel
theorem dX12_fingerprint_101 : decode cX12_fingerprint 101 = .ok (.i2l, 1) := by decide +kernel
theorem dX12_fingerprint_102 : decode cX12_fingerprint 102 = .ok (.ladd, 1) := by decide +kernel
theorem dX12_fingerprint_103 : decode cX12_fingerprint 103 = .ok (.lstore_n 1, 1) := by decide +kernel
theorem dX12_fingerprint_104 : decode cX12_fingerprint 104 = .ok (.iconst 0, 1) := by decide +kernel
theorem dX12_fingerprint_105 : decode cX12_fingerprint 105 = .ok (.istore_n 3, 1) := by decide +kernel
theorem dX12_fingerprint_106 : decode cX12_fingerprint 106 = .ok (.iload_n 3, 1) := by decide +kernel
theorem dX12_fingerprint_107 : decode cX12_fingerprint 107 = .ok (.iconst 5, 1) := by decide +kernel
theorem dX12_fingerprint_108 : decode cX12_fingerprint 108 = .ok (.aload_n 0, 1) := by decide +kernel
theorem dX12_fingerprint_109 : decode cX12_fingerprint 109 = .ok (.getfield 172, 3) := by decide +kernel
theorem dX12_fingerprint_112 : decode cX12_fingerprint 112 = .ok (.imul, 1) := by decide +kernel
theorem dX12_fingerprint_113 : decode cX12_fingerprint 113 = .ok (.if_icmp .ge 22, 3) := by decide +kernel
theorem dX12_fingerprint_116 : decode cX12_fingerprint 116 = .ok (.ldc2_w 227, 3) := by decide +kernel
theorem dX12_fingerprint_119 : decode cX12_fingerprint 119 = .ok (.lload_n 1, 1) := by decide +kernel
theorem dX12_fingerprint_120 : decode cX12_fingerprint 120 = .ok (.lmul, 1) := by decide +kernel
theorem dX12_fingerprint_121 : decode cX12_fingerprint 121 = .ok (.aload_n 0, 1) := by decide +kernel
theorem dX12_fingerprint_122 : decode cX12_fingerprint 122 = .ok (.getfield 42, 3) := by decide +kernel
theorem dX12_fingerprint_125 : decode cX12_fingerprint 125 = .ok (.iload_n 3, 1) := by decide +kernel
theorem dX12_fingerprint_126 : decode cX12_fingerprint 126 = .ok (.laload, 1) := by decide +kernel
theorem dX12_fingerprint_127 : decode cX12_fingerprint 127 = .ok (.ladd, 1) := by decide +kernel
theorem dX12_fingerprint_128 : decode cX12_fingerprint 128 = .ok (.lstore_n 1, 1) := by decide +kernel
theorem dX12_fingerprint_129 : decode cX12_fingerprint 129 = .ok (.iinc 3 1, 3) := by decide +kernel
theorem dX12_fingerprint_132 : decode cX12_fingerprint 132 = .ok (.goto (-26), 3) := by decide +kernel
theorem dX12_fingerprint_135 : decode cX12_fingerprint 135 = .ok (.iconst 0, 1) := by decide +kernel
theorem dX12_fingerprint_136 : decode cX12_fingerprint 136 = .ok (.istore_n 3, 1) := by decide +kernel
theorem dX12_fingerprint_137 : decode cX12_fingerprint 137 = .ok (.iload_n 3, 1) := by decide +kernel
theorem dX12_fingerprint_138 : decode cX12_fingerprint 138 = .ok (.bipush 12, 2) := by decide +kernel
theorem dX12_fingerprint_140 : decode cX12_fingerprint 140 = .ok (.if_icmp .ge 38, 3) := by decide +kernel
theorem dX12_fingerprint_143 : decode cX12_fingerprint 143 = .ok (.iconst 0, 1) := by decide +kernel
theorem dX12_fingerprint_144 : decode cX12_fingerprint 144 = .ok (.istore 4, 2) := by decide +kernel
theorem dX12_fingerprint_146 : decode cX12_fingerprint 146 = .ok (.iload 4, 2) := by decide +kernel
theorem dX12_fingerprint_148 : decode cX12_fingerprint 148 = .ok (.iconst 4, 1) := by decide +kernel
theorem dX12_fingerprint_149 : decode cX12_fingerprint 149 = .ok (.if_icmp .ge 23, 3) := by decide +kernel
theorem dX12_fingerprint_152 : decode cX12_fingerprint 152 = .ok (.ldc2_w 227, 3) := by decide +kernel
theorem dX12_fingerprint_155 : decode cX12_fingerprint 155 = .ok (.lload_n 1, 1) := by decide +kernel
theorem dX12_fingerprint_156 : decode cX12_fingerprint 156 = .ok (.lmul, 1) := by decide +kernel
theorem dX12_fingerprint_157 : decode cX12_fingerprint 157 = .ok (.aload_n 0, 1) := by decide +kernel
theorem dX12_fingerprint_158 : decode cX12_fingerprint 158 = .ok (.iload_n 3, 1) := by decide +kernel
theorem dX12_fingerprint_159 : decode cX12_fingerprint 159 = .ok (.iload 4, 2) := by decide +kernel
theorem dX12_fingerprint_161 : decode cX12_fingerprint 161 = .ok (.invokevirtual 215, 3) := by decide +kernel
theorem dX12_fingerprint_164 : decode cX12_fingerprint 164 = .ok (.ladd, 1) := by decide +kernel
theorem dX12_fingerprint_165 : decode cX12_fingerprint 165 = .ok (.lstore_n 1, 1) := by decide +kernel
theorem dX12_fingerprint_166 : decode cX12_fingerprint 166 = .ok (.iinc 4 1, 3) := by decide +kernel
theorem dX12_fingerprint_169 : decode cX12_fingerprint 169 = .ok (.goto (-23), 3) := by decide +kernel
theorem dX12_fingerprint_172 : decode cX12_fingerprint 172 = .ok (.iinc 3 1, 3) := by decide +kernel
theorem dX12_fingerprint_175 : decode cX12_fingerprint 175 = .ok (.goto (-38), 3) := by decide +kernel
theorem dX12_fingerprint_178 : decode cX12_fingerprint 178 = .ok (.lload_n 1, 1) := by decide +kernel
theorem dX12_fingerprint_179 : decode cX12_fingerprint 179 = .ok (.lreturn, 1) := by decide +kernel
theorem dJ13_bitCount_95d88_0 : decode cJ13_bitCount_95d88 0 = .ok (.lload_n 0, 1) := by decide +kernel
theorem dJ13_bitCount_95d88_1 : decode cJ13_bitCount_95d88 1 = .ok (.lload_n 0, 1) := by decide +kernel
theorem dJ13_bitCount_95d88_2 : decode cJ13_bitCount_95d88 2 = .ok (.iconst 1, 1) := by decide +kernel
theorem dJ13_bitCount_95d88_3 : decode cJ13_bitCount_95d88 3 = .ok (.lushr, 1) := by decide +kernel
theorem dJ13_bitCount_95d88_4 : decode cJ13_bitCount_95d88 4 = .ok (.ldc2_w 314, 3) := by decide +kernel
theorem dJ13_bitCount_95d88_7 : decode cJ13_bitCount_95d88 7 = .ok (.land, 1) := by decide +kernel
theorem dJ13_bitCount_95d88_8 : decode cJ13_bitCount_95d88 8 = .ok (.lsub, 1) := by decide +kernel
theorem dJ13_bitCount_95d88_9 : decode cJ13_bitCount_95d88 9 = .ok (.lstore_n 0, 1) := by decide +kernel
theorem dJ13_bitCount_95d88_10 : decode cJ13_bitCount_95d88 10 = .ok (.lload_n 0, 1) := by decide +kernel
theorem dJ13_bitCount_95d88_11 : decode cJ13_bitCount_95d88 11 = .ok (.ldc2_w 316, 3) := by decide +kernel
theorem dJ13_bitCount_95d88_14 : decode cJ13_bitCount_95d88 14 = .ok (.land, 1) := by decide +kernel
theorem dJ13_bitCount_95d88_15 : decode cJ13_bitCount_95d88 15 = .ok (.lload_n 0, 1) := by decide +kernel
theorem dJ13_bitCount_95d88_16 : decode cJ13_bitCount_95d88 16 = .ok (.iconst 2, 1) := by decide +kernel
theorem dJ13_bitCount_95d88_17 : decode cJ13_bitCount_95d88 17 = .ok (.lushr, 1) := by decide +kernel
theorem dJ13_bitCount_95d88_18 : decode cJ13_bitCount_95d88 18 = .ok (.ldc2_w 316, 3) := by decide +kernel
theorem dJ13_bitCount_95d88_21 : decode cJ13_bitCount_95d88 21 = .ok (.land, 1) := by decide +kernel
theorem dJ13_bitCount_95d88_22 : decode cJ13_bitCount_95d88 22 = .ok (.ladd, 1) := by decide +kernel
theorem dJ13_bitCount_95d88_23 : decode cJ13_bitCount_95d88 23 = .ok (.lstore_n 0, 1) := by decide +kernel
theorem dJ13_bitCount_95d88_24 : decode cJ13_bitCount_95d88 24 = .ok (.lload_n 0, 1) := by decide +kernel
theorem dJ13_bitCount_95d88_25 : decode cJ13_bitCount_95d88 25 = .ok (.lload_n 0, 1) := by decide +kernel
theorem dJ13_bitCount_95d88_26 : decode cJ13_bitCount_95d88 26 = .ok (.iconst 4, 1) := by decide +kernel
theorem dJ13_bitCount_95d88_27 : decode cJ13_bitCount_95d88 27 = .ok (.lushr, 1) := by decide +kernel
theorem dJ13_bitCount_95d88_28 : decode cJ13_bitCount_95d88 28 = .ok (.ladd, 1) := by decide +kernel
theorem dJ13_bitCount_95d88_29 : decode cJ13_bitCount_95d88 29 = .ok (.ldc2_w 318, 3) := by decide +kernel
theorem dJ13_bitCount_95d88_32 : decode cJ13_bitCount_95d88 32 = .ok (.land, 1) := by decide +kernel
theorem dJ13_bitCount_95d88_33 : decode cJ13_bitCount_95d88 33 = .ok (.lstore_n 0, 1) := by decide +kernel
theorem dJ13_bitCount_95d88_34 : decode cJ13_bitCount_95d88 34 = .ok (.lload_n 0, 1) := by decide +kernel
theorem dJ13_bitCount_95d88_35 : decode cJ13_bitCount_95d88 35 = .ok (.lload_n 0, 1) := by decide +kernel
theorem dJ13_bitCount_95d88_36 : decode cJ13_bitCount_95d88 36 = .ok (.bipush 8, 2) := by decide +kernel
theorem dJ13_bitCount_95d88_38 : decode cJ13_bitCount_95d88 38 = .ok (.lushr, 1) := by decide +kernel
theorem dJ13_bitCount_95d88_39 : decode cJ13_bitCount_95d88 39 = .ok (.ladd, 1) := by decide +kernel
theorem dJ13_bitCount_95d88_40 : decode cJ13_bitCount_95d88 40 = .ok (.lstore_n 0, 1) := by decide +kernel
theorem dJ13_bitCount_95d88_41 : decode cJ13_bitCount_95d88 41 = .ok (.lload_n 0, 1) := by decide +kernel
theorem dJ13_bitCount_95d88_42 : decode cJ13_bitCount_95d88 42 = .ok (.lload_n 0, 1) := by decide +kernel
theorem dJ13_bitCount_95d88_43 : decode cJ13_bitCount_95d88 43 = .ok (.bipush 16, 2) := by decide +kernel
theorem dJ13_bitCount_95d88_45 : decode cJ13_bitCount_95d88 45 = .ok (.lushr, 1) := by decide +kernel
theorem dJ13_bitCount_95d88_46 : decode cJ13_bitCount_95d88 46 = .ok (.ladd, 1) := by decide +kernel
theorem dJ13_bitCount_95d88_47 : decode cJ13_bitCount_95d88 47 = .ok (.lstore_n 0, 1) := by decide +kernel
theorem dJ13_bitCount_95d88_48 : decode cJ13_bitCount_95d88 48 = .ok (.lload_n 0, 1) := by decide +kernel
theorem dJ13_bitCount_95d88_49 : decode cJ13_bitCount_95d88 49 = .ok (.lload_n 0, 1) := by decide +kernel
theorem dJ13_bitCount_95d88_50 : decode cJ13_bitCount_95d88 50 = .ok (.bipush 32, 2) := by decide +kernel
theorem dJ13_bitCount_95d88_52 : decode cJ13_bitCount_95d88 52 = .ok (.lushr, 1) := by decide +kernel
theorem dJ13_bitCount_95d88_53 : decode cJ13_bitCount_95d88 53 = .ok (.ladd, 1) := by decide +kernel
theorem dJ13_bitCount_95d88_54 : decode cJ13_bitCount_95d88 54 = .ok (.lstore_n 0, 1) := by decide +kernel
theorem dJ13_bitCount_95d88_55 : decode cJ13_bitCount_95d88 55 = .ok (.lload_n 0, 1) := by decide +kernel
theorem dJ13_bitCount_95d88_56 : decode cJ13_bitCount_95d88 56 = .ok (.l2i, 1) := by decide +kernel
theorem dJ13_bitCount_95d88_57 : decode cJ13_bitCount_95d88 57 = .ok (.bipush 127, 2) := by decide +kernel
theorem dJ13_bitCount_95d88_59 : decode cJ13_bitCount_95d88 59 = .ok (.iand, 1) := by decide +kernel
theorem dJ13_bitCount_95d88_60 : decode cJ13_bitCount_95d88 60 = .ok (.ireturn, 1) := by decide +kernel
theorem dJ9_floorMod_7cf53_0 : decode cJ9_floorMod_7cf53 0 = .ok (.iload_n 0, 1) := by decide +kernel
theorem dJ9_floorMod_7cf53_1 : decode cJ9_floorMod_7cf53 1 = .ok (.iload_n 1, 1) := by decide +kernel
theorem dJ9_floorMod_7cf53_2 : decode cJ9_floorMod_7cf53 2 = .ok (.irem, 1) := by decide +kernel
theorem dJ9_floorMod_7cf53_3 : decode cJ9_floorMod_7cf53 3 = .ok (.istore_n 2, 1) := by decide +kernel
theorem dJ9_floorMod_7cf53_4 : decode cJ9_floorMod_7cf53 4 = .ok (.iload_n 0, 1) := by decide +kernel
theorem dJ9_floorMod_7cf53_5 : decode cJ9_floorMod_7cf53 5 = .ok (.iload_n 1, 1) := by decide +kernel
theorem dJ9_floorMod_7cf53_6 : decode cJ9_floorMod_7cf53 6 = .ok (.ixor, 1) := by decide +kernel
theorem dJ9_floorMod_7cf53_7 : decode cJ9_floorMod_7cf53 7 = .ok (.ifCond .ge 11, 3) := by decide +kernel
theorem dJ9_floorMod_7cf53_10 : decode cJ9_floorMod_7cf53 10 = .ok (.iload_n 2, 1) := by decide +kernel
theorem dJ9_floorMod_7cf53_11 : decode cJ9_floorMod_7cf53 11 = .ok (.ifCond .eq 7, 3) := by decide +kernel
theorem dJ9_floorMod_7cf53_14 : decode cJ9_floorMod_7cf53 14 = .ok (.iload_n 2, 1) := by decide +kernel
theorem dJ9_floorMod_7cf53_15 : decode cJ9_floorMod_7cf53 15 = .ok (.iload_n 1, 1) := by decide +kernel
theorem dJ9_floorMod_7cf53_16 : decode cJ9_floorMod_7cf53 16 = .ok (.iadd, 1) := by decide +kernel
theorem dJ9_floorMod_7cf53_17 : decode cJ9_floorMod_7cf53 17 = .ok (.ireturn, 1) := by decide +kernel
theorem dJ9_floorMod_7cf53_18 : decode cJ9_floorMod_7cf53 18 = .ok (.iload_n 2, 1) := by decide +kernel
theorem dJ9_floorMod_7cf53_19 : decode cJ9_floorMod_7cf53 19 = .ok (.ireturn, 1) := by decide +kernel
theorem dJ9_abs_0f7a4_0 : decode cJ9_abs_0f7a4 0 = .ok (.iload_n 0, 1) := by decide +kernel
theorem dJ9_abs_0f7a4_1 : decode cJ9_abs_0f7a4 1 = .ok (.ifCond .ge 8, 3) := by decide +kernel
theorem dJ9_abs_0f7a4_4 : decode cJ9_abs_0f7a4 4 = .ok (.iload_n 0, 1) := by decide +kernel
theorem dJ9_abs_0f7a4_5 : decode cJ9_abs_0f7a4 5 = .ok (.ineg, 1) := by decide +kernel
theorem dJ9_abs_0f7a4_6 : decode cJ9_abs_0f7a4 6 = .ok (.goto 4, 3) := by decide +kernel
theorem dJ9_abs_0f7a4_9 : decode cJ9_abs_0f7a4 9 = .ok (.iload_n 0, 1) := by decide +kernel
theorem dJ9_abs_0f7a4_10 : decode cJ9_abs_0f7a4 10 = .ok (.ireturn, 1) := by decide +kernel
theorem dJ9_max_7cf53_0 : decode cJ9_max_7cf53 0 = .ok (.iload_n 0, 1) := by decide +kernel
theorem dJ9_max_7cf53_1 : decode cJ9_max_7cf53 1 = .ok (.iload_n 1, 1) := by decide +kernel
theorem dJ9_max_7cf53_2 : decode cJ9_max_7cf53 2 = .ok (.if_icmp .lt 7, 3) := by decide +kernel
theorem dJ9_max_7cf53_5 : decode cJ9_max_7cf53 5 = .ok (.iload_n 0, 1) := by decide +kernel
theorem dJ9_max_7cf53_6 : decode cJ9_max_7cf53 6 = .ok (.goto 4, 3) := by decide +kernel
theorem dJ9_max_7cf53_9 : decode cJ9_max_7cf53 9 = .ok (.iload_n 1, 1) := by decide +kernel
theorem dJ9_max_7cf53_10 : decode cJ9_max_7cf53 10 = .ok (.ireturn, 1) := by decide +kernel
theorem dJ9_max_f86c9_0 : decode cJ9_max_f86c9 0 = .ok (.lload_n 0, 1) := by decide +kernel
theorem dJ9_max_f86c9_1 : decode cJ9_max_f86c9 1 = .ok (.lload_n 2, 1) := by decide +kernel
theorem dJ9_max_f86c9_2 : decode cJ9_max_f86c9 2 = .ok (.lcmp, 1) := by decide +kernel
theorem dJ9_max_f86c9_3 : decode cJ9_max_f86c9 3 = .ok (.ifCond .lt 7, 3) := by decide +kernel
theorem dJ9_max_f86c9_6 : decode cJ9_max_f86c9 6 = .ok (.lload_n 0, 1) := by decide +kernel
theorem dJ9_max_f86c9_7 : decode cJ9_max_f86c9 7 = .ok (.goto 4, 3) := by decide +kernel
theorem dJ9_max_f86c9_10 : decode cJ9_max_f86c9 10 = .ok (.lload_n 2, 1) := by decide +kernel
theorem dJ9_max_f86c9_11 : decode cJ9_max_f86c9 11 = .ok (.lreturn, 1) := by decide +kernel
theorem dJ9_min_7cf53_0 : decode cJ9_min_7cf53 0 = .ok (.iload_n 0, 1) := by decide +kernel
theorem dJ9_min_7cf53_1 : decode cJ9_min_7cf53 1 = .ok (.iload_n 1, 1) := by decide +kernel
theorem dJ9_min_7cf53_2 : decode cJ9_min_7cf53 2 = .ok (.if_icmp .gt 7, 3) := by decide +kernel
theorem dJ9_min_7cf53_5 : decode cJ9_min_7cf53 5 = .ok (.iload_n 0, 1) := by decide +kernel
theorem dJ9_min_7cf53_6 : decode cJ9_min_7cf53 6 = .ok (.goto 4, 3) := by decide +kernel
theorem dJ9_min_7cf53_9 : decode cJ9_min_7cf53 9 = .ok (.iload_n 1, 1) := by decide +kernel
theorem dJ9_min_7cf53_10 : decode cJ9_min_7cf53 10 = .ok (.ireturn, 1) := by decide +kernel
set_option maxRecDepth 20000 in
theorem ggJ0_length_8abf5_J0_coder_7d493 : GoodIn wsJ0_length_8abf5 wsJ0_coder_7d493 := goodIn_r _ [6, 7, 8] (by decide +kernel) (by decide +kernel)
set_option maxRecDepth 20000 in
theorem gJ0_length_8abf5_J0_coder_7d493 : GoodIn wsJ0_length_8abf5 (wsV RJ0 335 RJ0 yJ0_coder_7d493 wsJ0_coder_7d493) := goodIn_app (goodIn_of _ (by decide +kernel)) ggJ0_length_8abf5_J0_coder_7d493
theorem dJ0_length_8abf5_0 : decode cJ0_length_8abf5 0 = .ok (.aload_n 0, 1) := by decide +kernel
theorem dJ0_length_8abf5_1 : decode cJ0_length_8abf5 1 = .ok (.getfield 9, 3) := by decide +kernel
theorem dJ0_length_8abf5_4 : decode cJ0_length_8abf5 4 = .ok (.arraylength, 1) := by decide +kernel
theorem dJ0_length_8abf5_5 : decode cJ0_length_8abf5 5 = .ok (.aload_n 0, 1) := by decide +kernel
theorem dJ0_length_8abf5_6 : decode cJ0_length_8abf5 6 = .ok (.invokevirtual 335, 3) := by decide +kernel
theorem dJ0_length_8abf5_9 : decode cJ0_length_8abf5 9 = .ok (.ishr, 1) := by decide +kernel
theorem dJ0_length_8abf5_10 : decode cJ0_length_8abf5 10 = .ok (.ireturn, 1) := by decide +kernel
set_option maxRecDepth 20000 in
theorem ggJ0_charAt_5068e_J0_isLatin1_aae02 : GoodIn wsJ0_charAt_5068e wsJ0_isLatin1_aae02 := goodIn_r _ [6, 7, 8] (by decide +kernel) (by decide +kernel)
set_option maxRecDepth 20000 in
theorem gJ0_charAt_5068e_J0_isLatin1_aae02 : GoodIn wsJ0_charAt_5068e (wsV RJ0 492 RJ0 yJ0_isLatin1_aae02 wsJ0_isLatin1_aae02) := goodIn_app (goodIn_of _ (by decide +kernel)) ggJ0_charAt_5068e_J0_isLatin1_aae02
set_option maxRecDepth 20000 in
theorem ggJ0_charAt_5068e_J1_charAt_3b067 : GoodIn wsJ0_charAt_5068e wsJ1_charAt_3b067 := goodIn_r _ [12, 13, 14, 5, 15, 16, 17, 18, 19, 20] (by decide +kernel) (by decide +kernel)
set_option maxRecDepth 20000 in
theorem gJ0_charAt_5068e_J1_charAt_3b067 : GoodIn wsJ0_charAt_5068e (va_wsS RJ0 495 yJ1_charAt_3b067 wsJ1_charAt_3b067) := goodIn_app (goodIn_of _ (by decide +kernel)) ggJ0_charAt_5068e_J1_charAt_3b067
set_option maxRecDepth 20000 in
theorem ggJ0_charAt_5068e_J2_charAt_3b067 : GoodIn wsJ0_charAt_5068e wsJ2_charAt_3b067 := goodIn_r _ [24, 25, 26, 23, 27, 28, 29, 30, 31, 14, 5, 15, 16, 17, 18, 19, 20, 32, 33, 34, 35, 36, 37] (by decide +kernel) (by decide +kernel)
set_option maxRecDepth 20000 in
theorem gJ0_charAt_5068e_J2_charAt_3b067 : GoodIn wsJ0_charAt_5068e (va_wsS RJ0 498 yJ2_charAt_3b067 wsJ2_charAt_3b067) := goodIn_app (goodIn_of _ (by decide +kernel)) ggJ0_charAt_5068e_J2_charAt_3b067
theorem dJ0_charAt_5068e_0 : decode cJ0_charAt_5068e 0 = .ok (.aload_n 0, 1) := by decide +kernel
theorem dJ0_charAt_5068e_1 : decode cJ0_charAt_5068e 1 = .ok (.invokevirtual 492, 3) := by decide +kernel
theorem dJ0_charAt_5068e_4 : decode cJ0_charAt_5068e 4 = .ok (.ifCond .eq 12, 3) := by decide +kernel
theorem dJ0_charAt_5068e_7 : decode cJ0_charAt_5068e 7 = .ok (.aload_n 0, 1) := by decide +kernel
theorem dJ0_charAt_5068e_8 : decode cJ0_charAt_5068e 8 = .ok (.getfield 9, 3) := by decide +kernel
theorem dJ0_charAt_5068e_11 : decode cJ0_charAt_5068e 11 = .ok (.iload_n 1, 1) := by decide +kernel
theorem dJ0_charAt_5068e_12 : decode cJ0_charAt_5068e 12 = .ok (.invokestatic 495, 3) := by decide +kernel
theorem dJ0_charAt_5068e_15 : decode cJ0_charAt_5068e 15 = .ok (.ireturn, 1) := by decide +kernel
theorem dJ0_charAt_5068e_16 : decode cJ0_charAt_5068e 16 = .ok (.aload_n 0, 1) := by decide +kernel
theorem dJ0_charAt_5068e_17 : decode cJ0_charAt_5068e 17 = .ok (.getfield 9, 3) := by decide +kernel
theorem dJ0_charAt_5068e_20 : decode cJ0_charAt_5068e 20 = .ok (.iload_n 1, 1) := by decide +kernel
theorem dJ0_charAt_5068e_21 : decode cJ0_charAt_5068e 21 = .ok (.invokestatic 498, 3) := by decide +kernel
theorem dJ0_charAt_5068e_24 : decode cJ0_charAt_5068e 24 = .ok (.ireturn, 1) := by decide +kernel
theorem dJ0_coder_7d493_0 : decode cJ0_coder_7d493 0 = .ok (.getstatic 38, 3) := by decide +kernel
theorem dJ0_coder_7d493_3 : decode cJ0_coder_7d493 3 = .ok (.ifCond .eq 10, 3) := by decide +kernel
theorem dJ0_coder_7d493_6 : decode cJ0_coder_7d493 6 = .ok (.aload_n 0, 1) := by decide +kernel
theorem dJ0_coder_7d493_7 : decode cJ0_coder_7d493 7 = .ok (.getfield 15, 3) := by decide +kernel
theorem dJ0_coder_7d493_10 : decode cJ0_coder_7d493 10 = .ok (.goto 4, 3) := by decide +kernel
theorem dJ0_coder_7d493_13 : decode cJ0_coder_7d493 13 = .ok (.iconst 1, 1) := by decide +kernel
theorem dJ0_coder_7d493_14 : decode cJ0_coder_7d493 14 = .ok (.ireturn, 1) := by decide +kernel
theorem dJ0_isLatin1_aae02_0 : decode cJ0_isLatin1_aae02 0 = .ok (.getstatic 38, 3) := by decide +kernel
theorem dJ0_isLatin1_aae02_3 : decode cJ0_isLatin1_aae02 3 = .ok (.ifCond .eq 14, 3) := by decide +kernel
theorem dJ0_isLatin1_aae02_6 : decode cJ0_isLatin1_aae02 6 = .ok (.aload_n 0, 1) := by decide +kernel
theorem dJ0_isLatin1_aae02_7 : decode cJ0_isLatin1_aae02 7 = .ok (.getfield 15, 3) := by decide +kernel
theorem dJ0_isLatin1_aae02_10 : decode cJ0_isLatin1_aae02 10 = .ok (.ifCond .ne 7, 3) := by decide +kernel
theorem dJ0_isLatin1_aae02_13 : decode cJ0_isLatin1_aae02 13 = .ok (.iconst 1, 1) := by decide +kernel
theorem dJ0_isLatin1_aae02_14 : decode cJ0_isLatin1_aae02 14 = .ok (.goto 4, 3) := by decide +kernel
theorem dJ0_isLatin1_aae02_17 : decode cJ0_isLatin1_aae02 17 = .ok (.iconst 0, 1) := by decide +kernel
theorem dJ0_isLatin1_aae02_18 : decode cJ0_isLatin1_aae02 18 = .ok (.ireturn, 1) := by decide +kernel
set_option maxRecDepth 20000 in
theorem ggJ0_checkIndex_df160_J3_checkIndex_8e157 : GoodIn wsJ0_checkIndex_df160 wsJ3_checkIndex_8e157 := goodIn_r _ [5] (by decide +kernel) (by decide +kernel)
set_option maxRecDepth 20000 in
theorem gJ0_checkIndex_df160_J3_checkIndex_8e157 : GoodIn wsJ0_checkIndex_df160 (va_wsS RJ0 1059 yJ3_checkIndex_8e157 wsJ3_checkIndex_8e157) := goodIn_app (goodIn_of _ (by decide +kernel)) ggJ0_checkIndex_df160_J3_checkIndex_8e157
theorem dJ0_checkIndex_df160_0 : decode cJ0_checkIndex_df160 0 = .ok (.iload_n 0, 1) := by decide +kernel
theorem dJ0_checkIndex_df160_1 : decode cJ0_checkIndex_df160 1 = .ok (.iload_n 1, 1) := by decide +kernel
theorem dJ0_checkIndex_df160_2 : decode cJ0_checkIndex_df160 2 = .ok (.getstatic 1053, 3) := by decide +kernel
theorem dJ0_checkIndex_df160_5 : decode cJ0_checkIndex_df160 5 = .ok (.invokestatic 1059, 3) := by decide +kernel
theorem dJ0_checkIndex_df160_8 : decode cJ0_checkIndex_df160 8 = .ok (.pop, 1) := by decide +kernel
theorem dJ0_checkIndex_df160_9 : decode cJ0_checkIndex_df160 9 = .ok (.return_, 1) := by decide +kernel
set_option maxRecDepth 20000 in
theorem ggJ1_charAt_3b067_J0_checkIndex_df160 : GoodIn wsJ1_charAt_3b067 wsJ0_checkIndex_df160 := goodIn_r _ [4, 5, 6, 7, 8, 9] (by decide +kernel) (by decide +kernel)
set_option maxRecDepth 20000 in
theorem gJ1_charAt_3b067_J0_checkIndex_df160 : GoodIn wsJ1_charAt_3b067 (va_wsS RJ1 9 yJ0_checkIndex_df160 wsJ0_checkIndex_df160) := goodIn_app (goodIn_of _ (by decide +kernel)) ggJ1_charAt_3b067_J0_checkIndex_df160
theorem dJ1_charAt_3b067_0 : decode cJ1_charAt_3b067 0 = .ok (.iload_n 1, 1) := by decide +kernel
theorem dJ1_charAt_3b067_1 : decode cJ1_charAt_3b067 1 = .ok (.aload_n 0, 1) := by decide +kernel
theorem dJ1_charAt_3b067_2 : decode cJ1_charAt_3b067 2 = .ok (.arraylength, 1) := by decide +kernel
theorem dJ1_charAt_3b067_3 : decode cJ1_charAt_3b067 3 = .ok (.invokestatic 9, 3) := by decide +kernel
theorem dJ1_charAt_3b067_6 : decode cJ1_charAt_3b067 6 = .ok (.aload_n 0, 1) := by decide +kernel
theorem dJ1_charAt_3b067_7 : decode cJ1_charAt_3b067 7 = .ok (.iload_n 1, 1) := by decide +kernel
theorem dJ1_charAt_3b067_8 : decode cJ1_charAt_3b067 8 = .ok (.baload, 1) := by decide +kernel
theorem dJ1_charAt_3b067_9 : decode cJ1_charAt_3b067 9 = .ok (.sipush 255, 3) := by decide +kernel
theorem dJ1_charAt_3b067_12 : decode cJ1_charAt_3b067 12 = .ok (.iand, 1) := by decide +kernel
theorem dJ1_charAt_3b067_13 : decode cJ1_charAt_3b067 13 = .ok (.i2c, 1) := by decide +kernel
theorem dJ1_charAt_3b067_14 : decode cJ1_charAt_3b067 14 = .ok (.ireturn, 1) := by decide +kernel
set_option maxRecDepth 20000 in
theorem ggJ2_getChar_3b067_J2_length_9d52b : GoodIn wsJ2_getChar_3b067 wsJ2_length_9d52b := goodIn_r _ [7] (by decide +kernel) (by decide +kernel)
set_option maxRecDepth 20000 in
theorem gJ2_getChar_3b067_J2_length_9d52b : GoodIn wsJ2_getChar_3b067 (va_wsS RJ2 48 yJ2_length_9d52b wsJ2_length_9d52b) := goodIn_app (goodIn_of _ (by decide +kernel)) ggJ2_getChar_3b067_J2_length_9d52b
theorem dJ2_getChar_3b067_0 : decode cJ2_getChar_3b067 0 = .ok (.getstatic 44, 3) := by decide +kernel
theorem dJ2_getChar_3b067_3 : decode cJ2_getChar_3b067 3 = .ok (.ifCond .ne 25, 3) := by decide +kernel
theorem dJ2_getChar_3b067_6 : decode cJ2_getChar_3b067 6 = .ok (.iload_n 1, 1) := by decide +kernel
theorem dJ2_getChar_3b067_7 : decode cJ2_getChar_3b067 7 = .ok (.ifCond .lt 11, 3) := by decide +kernel
theorem dJ2_getChar_3b067_10 : decode cJ2_getChar_3b067 10 = .ok (.iload_n 1, 1) := by decide +kernel
theorem dJ2_getChar_3b067_11 : decode cJ2_getChar_3b067 11 = .ok (.aload_n 0, 1) := by decide +kernel
theorem dJ2_getChar_3b067_12 : decode cJ2_getChar_3b067 12 = .ok (.invokestatic 48, 3) := by decide +kernel
theorem dJ2_getChar_3b067_15 : decode cJ2_getChar_3b067 15 = .ok (.if_icmp .lt 13, 3) := by decide +kernel
theorem dJ2_getChar_3b067_18 : decode cJ2_getChar_3b067 18 = .ok (.new 52, 3) := by decide +kernel
theorem dJ2_getChar_3b067_21 : decode cJ2_getChar_3b067 21 = .ok (.dup, 1) := by decide +kernel
theorem dJ2_getChar_3b067_22 : decode cJ2_getChar_3b067 22 = .ok (.ldc 54, 2) := by decide +kernel
theorem dJ2_getChar_3b067_24 : decode cJ2_getChar_3b067 24 = .ok (.invokespecial 56, 3) := by decide +kernel
theorem dJ2_getChar_3b067_27 : decode cJ2_getChar_3b067 27 = .ok (.athrow, 1) := by decide +kernel
theorem dJ2_getChar_3b067_28 : decode cJ2_getChar_3b067 28 = .ok (.iload_n 1, 1) := by decide +kernel
theorem dJ2_getChar_3b067_29 : decode cJ2_getChar_3b067 29 = .ok (.iconst 1, 1) := by decide +kernel
theorem dJ2_getChar_3b067_30 : decode cJ2_getChar_3b067 30 = .ok (.ishl, 1) := by decide +kernel
theorem dJ2_getChar_3b067_31 : decode cJ2_getChar_3b067 31 = .ok (.istore_n 1, 1) := by decide +kernel
theorem dJ2_getChar_3b067_32 : decode cJ2_getChar_3b067 32 = .ok (.aload_n 0, 1) := by decide +kernel
theorem dJ2_getChar_3b067_33 : decode cJ2_getChar_3b067 33 = .ok (.iload_n 1, 1) := by decide +kernel
theorem dJ2_getChar_3b067_34 : decode cJ2_getChar_3b067 34 = .ok (.iinc 1 1, 3) := by decide +kernel
theorem dJ2_getChar_3b067_37 : decode cJ2_getChar_3b067 37 = .ok (.baload, 1) := by decide +kernel
theorem dJ2_getChar_3b067_38 : decode cJ2_getChar_3b067 38 = .ok (.sipush 255, 3) := by decide +kernel
theorem dJ2_getChar_3b067_41 : decode cJ2_getChar_3b067 41 = .ok (.iand, 1) := by decide +kernel
theorem dJ2_getChar_3b067_42 : decode cJ2_getChar_3b067 42 = .ok (.getstatic 59, 3) := by decide +kernel
theorem dJ2_getChar_3b067_45 : decode cJ2_getChar_3b067 45 = .ok (.ishl, 1) := by decide +kernel
theorem dJ2_getChar_3b067_46 : decode cJ2_getChar_3b067 46 = .ok (.aload_n 0, 1) := by decide +kernel
theorem dJ2_getChar_3b067_47 : decode cJ2_getChar_3b067 47 = .ok (.iload_n 1, 1) := by decide +kernel
theorem dJ2_getChar_3b067_48 : decode cJ2_getChar_3b067 48 = .ok (.baload, 1) := by decide +kernel
theorem dJ2_getChar_3b067_49 : decode cJ2_getChar_3b067 49 = .ok (.sipush 255, 3) := by decide +kernel
theorem dJ2_getChar_3b067_52 : decode cJ2_getChar_3b067 52 = .ok (.iand, 1) := by decide +kernel
theorem dJ2_getChar_3b067_53 : decode cJ2_getChar_3b067 53 = .ok (.getstatic 63, 3) := by decide +kernel
theorem dJ2_getChar_3b067_56 : decode cJ2_getChar_3b067 56 = .ok (.ishl, 1) := by decide +kernel
theorem dJ2_getChar_3b067_57 : decode cJ2_getChar_3b067 57 = .ok (.ior, 1) := by decide +kernel
theorem dJ2_getChar_3b067_58 : decode cJ2_getChar_3b067 58 = .ok (.i2c, 1) := by decide +kernel
theorem dJ2_getChar_3b067_59 : decode cJ2_getChar_3b067 59 = .ok (.ireturn, 1) := by decide +kernel
theorem dJ2_length_9d52b_0 : decode cJ2_length_9d52b 0 = .ok (.aload_n 0, 1) := by decide +kernel
theorem dJ2_length_9d52b_1 : decode cJ2_length_9d52b 1 = .ok (.arraylength, 1) := by decide +kernel
theorem dJ2_length_9d52b_2 : decode cJ2_length_9d52b 2 = .ok (.iconst 1, 1) := by decide +kernel
theorem dJ2_length_9d52b_3 : decode cJ2_length_9d52b 3 = .ok (.ishr, 1) := by decide +kernel
theorem dJ2_length_9d52b_4 : decode cJ2_length_9d52b 4 = .ok (.ireturn, 1) := by decide +kernel
set_option maxRecDepth 20000 in
theorem ggJ2_charAt_3b067_J2_checkIndex_2214a : GoodIn wsJ2_charAt_3b067 wsJ2_checkIndex_2214a := goodIn_r _ [4, 5, 6, 3, 7, 8, 9, 10, 11, 12, 13, 14, 15, 16] (by decide +kernel) (by decide +kernel)
set_option maxRecDepth 20000 in
theorem gJ2_charAt_3b067_J2_checkIndex_2214a : GoodIn wsJ2_charAt_3b067 (va_wsS RJ2 67 yJ2_checkIndex_2214a wsJ2_checkIndex_2214a) := goodIn_app (goodIn_of _ (by decide +kernel)) ggJ2_charAt_3b067_J2_checkIndex_2214a
set_option maxRecDepth 20000 in
theorem ggJ2_charAt_3b067_J2_getChar_3b067 : GoodIn wsJ2_charAt_3b067 wsJ2_getChar_3b067 := goodIn_r _ [19, 20, 21, 22, 5, 6, 3, 7] (by decide +kernel) (by decide +kernel)
set_option maxRecDepth 20000 in
theorem gJ2_charAt_3b067_J2_getChar_3b067 : GoodIn wsJ2_charAt_3b067 (va_wsS RJ2 71 yJ2_getChar_3b067 wsJ2_getChar_3b067) := goodIn_app (goodIn_of _ (by decide +kernel)) ggJ2_charAt_3b067_J2_getChar_3b067
theorem dJ2_charAt_3b067_0 : decode cJ2_charAt_3b067 0 = .ok (.iload_n 1, 1) := by decide +kernel
theorem dJ2_charAt_3b067_1 : decode cJ2_charAt_3b067 1 = .ok (.aload_n 0, 1) := by decide +kernel
theorem dJ2_charAt_3b067_2 : decode cJ2_charAt_3b067 2 = .ok (.invokestatic 67, 3) := by decide +kernel
theorem dJ2_charAt_3b067_5 : decode cJ2_charAt_3b067 5 = .ok (.aload_n 0, 1) := by decide +kernel
theorem dJ2_charAt_3b067_6 : decode cJ2_charAt_3b067 6 = .ok (.iload_n 1, 1) := by decide +kernel
theorem dJ2_charAt_3b067_7 : decode cJ2_charAt_3b067 7 = .ok (.invokestatic 71, 3) := by decide +kernel
theorem dJ2_charAt_3b067_10 : decode cJ2_charAt_3b067 10 = .ok (.ireturn, 1) := by decide +kernel
set_option maxRecDepth 20000 in
theorem ggJ2_checkIndex_2214a_J2_length_9d52b : GoodIn wsJ2_checkIndex_2214a wsJ2_length_9d52b := goodIn_r _ [4] (by decide +kernel) (by decide +kernel)
set_option maxRecDepth 20000 in
theorem gJ2_checkIndex_2214a_J2_length_9d52b : GoodIn wsJ2_checkIndex_2214a (va_wsS RJ2 48 yJ2_length_9d52b wsJ2_length_9d52b) := goodIn_app (goodIn_of _ (by decide +kernel)) ggJ2_checkIndex_2214a_J2_length_9d52b
set_option maxRecDepth 20000 in
theorem ggJ2_checkIndex_2214a_J0_checkIndex_df160 : GoodIn wsJ2_checkIndex_2214a wsJ0_checkIndex_df160 := goodIn_r _ [8, 9, 10, 11, 12, 13] (by decide +kernel) (by decide +kernel)
set_option maxRecDepth 20000 in
theorem gJ2_checkIndex_2214a_J0_checkIndex_df160 : GoodIn wsJ2_checkIndex_2214a (va_wsS RJ2 414 yJ0_checkIndex_df160 wsJ0_checkIndex_df160) := goodIn_app (goodIn_of _ (by decide +kernel)) ggJ2_checkIndex_2214a_J0_checkIndex_df160
theorem dJ2_checkIndex_2214a_0 : decode cJ2_checkIndex_2214a 0 = .ok (.iload_n 0, 1) := by decide +kernel
theorem dJ2_checkIndex_2214a_1 : decode cJ2_checkIndex_2214a 1 = .ok (.aload_n 1, 1) := by decide +kernel
theorem dJ2_checkIndex_2214a_2 : decode cJ2_checkIndex_2214a 2 = .ok (.invokestatic 48, 3) := by decide +kernel
theorem dJ2_checkIndex_2214a_5 : decode cJ2_checkIndex_2214a 5 = .ok (.invokestatic 414, 3) := by decide +kernel
theorem dJ2_checkIndex_2214a_8 : decode cJ2_checkIndex_2214a 8 = .ok (.return_, 1) := by decide +kernel
theorem dJ3_checkIndex_8e157_0 : decode cJ3_checkIndex_8e157 0 = .ok (.iload_n 0, 1) := by decide +kernel
theorem dJ3_checkIndex_8e157_1 : decode cJ3_checkIndex_8e157 1 = .ok (.ifCond .lt 8, 3) := by decide +kernel
theorem dJ3_checkIndex_8e157_4 : decode cJ3_checkIndex_8e157 4 = .ok (.iload_n 0, 1) := by decide +kernel
theorem dJ3_checkIndex_8e157_5 : decode cJ3_checkIndex_8e157 5 = .ok (.iload_n 1, 1) := by decide +kernel
theorem dJ3_checkIndex_8e157_6 : decode cJ3_checkIndex_8e157 6 = .ok (.if_icmp .lt 10, 3) := by decide +kernel
theorem dJ3_checkIndex_8e157_9 : decode cJ3_checkIndex_8e157 9 = .ok (.aload_n 2, 1) := by decide +kernel
theorem dJ3_checkIndex_8e157_10 : decode cJ3_checkIndex_8e157 10 = .ok (.iload_n 0, 1) := by decide +kernel
theorem dJ3_checkIndex_8e157_11 : decode cJ3_checkIndex_8e157 11 = .ok (.iload_n 1, 1) := by decide +kernel
theorem dJ3_checkIndex_8e157_12 : decode cJ3_checkIndex_8e157 12 = .ok (.invokestatic 95, 3) := by decide +kernel
theorem dJ3_checkIndex_8e157_15 : decode cJ3_checkIndex_8e157 15 = .ok (.athrow, 1) := by decide +kernel
theorem dJ3_checkIndex_8e157_16 : decode cJ3_checkIndex_8e157 16 = .ok (.iload_n 0, 1) := by decide +kernel
theorem dJ3_checkIndex_8e157_17 : decode cJ3_checkIndex_8e157 17 = .ok (.ireturn, 1) := by decide +kernel
set_option maxRecDepth 20000 in
theorem ggL_law_X11_init : GoodIn wsL_law wsX11_init := goodIn_r _ [8, 9, 10, 11, 12, 13, 14, 15, 16, 17, 18, 19, 20, 21, 22, 23, 24, 25, 26, 27, 28, 29, 30, 31, 32, 33, 34, 35, 36, 37, 38, 39, 40, 41, 42, 43, 44, 45, 46, 47, 48, 49, 50, 51, 52, 53, 54, 55, 56, 57, 58, 59, 60, 61, 62, 63, 64, 65, 66, 67, 68, 69, 70, 71, 72, 73, 74, 75, 76, 77, 78, 79, 80, 81, 82, 83, 84, 85, 86, 87, 88, 89, 90, 91, 92, 93, 94, 95, 96, 97, 98, 99, 100, 101, 102, 103, 104, 105, 106, 107, 887, 888, 889, 856, 857, 858, 859, 890, 891, 892, 893, 894, 895, 896, 897, 898, 899, 900, 901, 902, 903, 904, 905, 906, 907, 908, 909, 910, 911, 912, 913, 914, 915, 916, 917, 918, 919, 920, 921] (by decide +kernel) (by decide +kernel)
set_option maxRecDepth 20000 in
theorem gL_law_X11_init : GoodIn wsL_law (wsX11_init) := ggL_law_X11_init
set_option maxRecDepth 20000 in
theorem ggL_law_X12_init : GoodIn wsL_law wsX12_init := goodIn_r _ [110, 111, 10, 11, 40, 112, 113, 114, 115, 116, 117, 82, 118, 119, 120, 121, 122, 123, 124, 125, 126, 127, 128, 129, 130, 860, 861, 862, 863, 864, 865, 866, 867, 868, 869, 870, 871, 872, 873, 874, 875, 876, 877, 878, 879, 880, 881, 882, 883, 884, 885, 886] (by decide +kernel) (by decide +kernel)
set_option maxRecDepth 20000 in
theorem gL_law_X12_init : GoodIn wsL_law (wsX12_init) := ggL_law_X12_init
set_option maxRecDepth 20000 in
theorem ggL_law_X11_add : GoodIn wsL_law wsX11_add := goodIn_r _ [134, 135, 15, 136, 19, 137, 138, 33, 139, 140, 141, 142, 143, 144, 145, 146, 147, 148, 149, 150, 151, 152, 153, 154, 155, 18, 156, 157, 47, 158, 159, 160, 161, 162, 163, 164, 14, 165, 34, 35, 36, 166, 167, 168, 169, 41, 170, 171, 172, 173, 174, 175, 176, 177, 178, 856, 857, 858, 859, 887, 888, 889, 904, 905, 890, 891] (by decide +kernel) (by decide +kernel)
set_option maxRecDepth 20000 in
theorem gL_law_X11_add : GoodIn wsL_law (wsV RL 13 RX11 yX11_add wsX11_add) := goodIn_app (goodIn_of _ (by decide +kernel)) ggL_law_X11_add
set_option maxRecDepth 20000 in
theorem ggL_law_X12_add : GoodIn wsL_law wsX12_add := goodIn_r _ [182, 183, 112, 184, 185, 186, 5, 187, 188, 189, 190, 191, 192, 193, 194, 195, 113, 196, 197, 198, 199, 860, 861, 862, 863, 864, 865, 866, 867, 868, 869, 870, 871, 872, 873, 874, 875, 876, 877, 878, 879, 880, 881, 882, 883, 884, 885, 886] (by decide +kernel) (by decide +kernel)
set_option maxRecDepth 20000 in
theorem gL_law_X12_add : GoodIn wsL_law (wsV RL 17 RX12 yX12_add wsX12_add) := goodIn_app (goodIn_of _ (by decide +kernel)) ggL_law_X12_add
set_option maxRecDepth 20000 in
theorem ggL_law_X11_remove : GoodIn wsL_law wsX11_remove := goodIn_r _ [203, 15, 135, 19, 204, 205, 206, 33, 207, 170, 153, 154, 155, 18, 156, 157, 47, 158, 159, 160, 161, 162, 163, 164, 14, 165, 34, 35, 36, 166, 167, 168, 169, 41, 171, 172, 173, 174, 208, 209, 210, 211, 212, 856, 857, 858, 859, 887, 888, 889, 904, 905, 890, 891] (by decide +kernel) (by decide +kernel)
set_option maxRecDepth 20000 in
theorem gL_law_X11_remove : GoodIn wsL_law (wsV RL 18 RX11 yX11_remove wsX11_remove) := goodIn_app (goodIn_of _ (by decide +kernel)) ggL_law_X11_remove
set_option maxRecDepth 20000 in
theorem ggL_law_X12_remove : GoodIn wsL_law wsX12_remove := goodIn_r _ [216, 183, 112, 217, 218, 219, 5, 220, 185, 186, 187, 191, 192, 193, 194, 195, 113, 860, 861, 862, 863, 864, 865, 866, 867, 868, 869, 870, 871, 872, 873, 874, 875, 876, 877, 878, 879, 880, 881, 882, 883, 884, 885, 886] (by decide +kernel) (by decide +kernel)
set_option maxRecDepth 20000 in
theorem gL_law_X12_remove : GoodIn wsL_law (wsV RL 22 RX12 yX12_remove wsX12_remove) := goodIn_app (goodIn_of _ (by decide +kernel)) ggL_law_X12_remove
set_option maxRecDepth 20000 in
theorem ggL_law_X11_part : GoodIn wsL_law wsX11_part := goodIn_r _ [224, 15, 225, 226, 227, 33, 228, 229, 41, 212, 205, 206, 207, 170, 856, 857, 858, 859, 887, 888, 889, 904, 905] (by decide +kernel) (by decide +kernel)
set_option maxRecDepth 20000 in
theorem gL_law_X11_part : GoodIn wsL_law (wsV RL 23 RX11 yX11_part wsX11_part) := goodIn_app (goodIn_of _ (by decide +kernel)) ggL_law_X11_part
set_option maxRecDepth 20000 in
theorem ggL_law_X12_part : GoodIn wsL_law wsX12_part := goodIn_r _ [233, 112, 183, 217, 218, 219, 5, 220, 185, 186, 187, 860, 861, 862, 863, 864, 865, 866, 867, 868, 869, 870, 871, 872, 873, 874, 875, 876, 877, 878, 879, 880, 881, 882, 883, 884, 885, 886] (by decide +kernel) (by decide +kernel)
set_option maxRecDepth 20000 in
theorem gL_law_X12_part : GoodIn wsL_law (wsV RL 27 RX12 yX12_part wsX12_part) := goodIn_app (goodIn_of _ (by decide +kernel)) ggL_law_X12_part
set_option maxRecDepth 20000 in
theorem ggL_law_X11_parts : GoodIn wsL_law wsX11_parts := goodIn_r _ [237, 15, 856, 857, 858, 859, 887, 888, 889, 904, 905] (by decide +kernel) (by decide +kernel)
set_option maxRecDepth 20000 in
theorem gL_law_X11_parts : GoodIn wsL_law (wsV RL 28 RX11 yX11_parts wsX11_parts) := goodIn_app (goodIn_of _ (by decide +kernel)) ggL_law_X11_parts
set_option maxRecDepth 20000 in
theorem ggL_law_X12_parts : GoodIn wsL_law wsX12_parts := goodIn_r _ [241, 112, 860, 861, 862, 863, 864, 865, 866, 867, 868, 869, 870, 871, 872, 873, 874, 875, 876, 877, 878, 879, 880, 881, 882, 883, 884, 885, 886] (by decide +kernel) (by decide +kernel)
set_option maxRecDepth 20000 in
theorem gL_law_X12_parts : GoodIn wsL_law (wsV RL 32 RX12 yX12_parts wsX12_parts) := goodIn_app (goodIn_of _ (by decide +kernel)) ggL_law_X12_parts
set_option maxRecDepth 20000 in
theorem ggL_law_X11_setLoss : GoodIn wsL_law wsX11_setLoss := goodIn_r _ [245, 135, 19, 15, 153, 154, 155, 18, 156, 157, 47, 158, 159, 160, 161, 162, 163, 164, 14, 165, 34, 35, 36, 166, 167, 168, 33, 169, 41, 170, 171, 172, 173, 174, 856, 857, 858, 859, 887, 888, 889, 890, 891, 904, 905] (by decide +kernel) (by decide +kernel)
set_option maxRecDepth 20000 in
theorem gL_law_X11_setLoss : GoodIn wsL_law (wsV RL 33 RX11 yX11_setLoss wsX11_setLoss) := goodIn_app (goodIn_of _ (by decide +kernel)) ggL_law_X11_setLoss
set_option maxRecDepth 20000 in
theorem ggL_law_X12_setLoss : GoodIn wsL_law wsX12_setLoss := goodIn_r _ [249, 183, 185, 186, 5, 187, 250, 251, 252, 253, 112, 191, 192, 193, 194, 195, 113, 860, 861, 862, 863, 864, 865, 866, 867, 868, 869, 870, 871, 872, 873, 874, 875, 876, 877, 878, 879, 880, 881, 882, 883, 884, 885, 886] (by decide +kernel) (by decide +kernel)
set_option maxRecDepth 20000 in
theorem gL_law_X12_setLoss : GoodIn wsL_law (wsV RL 36 RX12 yX12_setLoss wsX12_setLoss) := goodIn_app (goodIn_of _ (by decide +kernel)) ggL_law_X12_setLoss
set_option maxRecDepth 20000 in
theorem ggL_law_X11_setThreshold : GoodIn wsL_law wsX11_setThreshold := goodIn_r _ [257, 258, 135, 19, 15, 153, 154, 155, 18, 156, 157, 47, 158, 159, 160, 161, 162, 163, 164, 14, 165, 34, 35, 36, 166, 167, 168, 33, 169, 41, 170, 171, 172, 173, 174, 856, 857, 858, 859, 887, 888, 889, 890, 891, 904, 905] (by decide +kernel) (by decide +kernel)
set_option maxRecDepth 20000 in
theorem gL_law_X11_setThreshold : GoodIn wsL_law (wsV RL 37 RX11 yX11_setThreshold wsX11_setThreshold) := goodIn_app (goodIn_of _ (by decide +kernel)) ggL_law_X11_setThreshold
set_option maxRecDepth 20000 in
theorem ggL_law_X12_setThreshold : GoodIn wsL_law wsX12_setThreshold := goodIn_r _ [262, 263, 183, 185, 186, 5, 187, 250, 251, 252, 253, 112, 191, 192, 193, 194, 195, 113, 860, 861, 862, 863, 864, 865, 866, 867, 868, 869, 870, 871, 872, 873, 874, 875, 876, 877, 878, 879, 880, 881, 882, 883, 884, 885, 886] (by decide +kernel) (by decide +kernel)
set_option maxRecDepth 20000 in
theorem gL_law_X12_setThreshold : GoodIn wsL_law (wsV RL 40 RX12 yX12_setThreshold wsX12_setThreshold) := goodIn_app (goodIn_of _ (by decide +kernel)) ggL_law_X12_setThreshold
set_option maxRecDepth 20000 in
theorem ggL_law_X11_type : GoodIn wsL_law wsX11_type := goodIn_r _ [267, 135, 23, 136, 268, 269, 270, 22, 271, 272, 52, 856, 857, 858, 859, 892, 893, 894, 895, 896, 897] (by decide +kernel) (by decide +kernel)
set_option maxRecDepth 20000 in
theorem gL_law_X11_type : GoodIn wsL_law (wsV RL 41 RX11 yX11_type wsX11_type) := goodIn_app (goodIn_of _ (by decide +kernel)) ggL_law_X11_type
set_option maxRecDepth 20000 in
theorem ggL_law_X12_type : GoodIn wsL_law wsX12_type := goodIn_r _ [276, 183, 277, 184, 114, 185, 186, 5, 187, 860, 861, 862, 863, 864, 865, 866, 867, 868, 869, 870, 871, 872, 873, 874, 875, 876, 877, 878, 879, 880, 881, 882, 883, 884, 885, 886] (by decide +kernel) (by decide +kernel)
set_option maxRecDepth 20000 in
theorem gL_law_X12_type : GoodIn wsL_law (wsV RL 44 RX12 yX12_type wsX12_type) := goodIn_app (goodIn_of _ (by decide +kernel)) ggL_law_X12_type
set_option maxRecDepth 20000 in
theorem ggL_law_X11_clear : GoodIn wsL_law wsX11_clear := goodIn_r _ [281, 23, 856, 857, 858, 859, 892, 893, 894, 895, 896, 897] (by decide +kernel) (by decide +kernel)
set_option maxRecDepth 20000 in
theorem gL_law_X11_clear : GoodIn wsL_law (wsV RL 45 RX11 yX11_clear wsX11_clear) := goodIn_app (goodIn_of _ (by decide +kernel)) ggL_law_X11_clear
set_option maxRecDepth 20000 in
theorem ggL_law_X12_clear : GoodIn wsL_law wsX12_clear := goodIn_r _ [285, 277, 860, 861, 862, 863, 864, 865, 866, 867, 868, 869, 870, 871, 872, 873, 874, 875, 876, 877, 878, 879, 880, 881, 882, 883, 884, 885, 886] (by decide +kernel) (by decide +kernel)
set_option maxRecDepth 20000 in
theorem gL_law_X12_clear : GoodIn wsL_law (wsV RL 48 RX12 yX12_clear wsX12_clear) := goodIn_app (goodIn_of _ (by decide +kernel)) ggL_law_X12_clear
set_option maxRecDepth 20000 in
theorem ggL_law_X11_read : GoodIn wsL_law wsX11_read := goodIn_r _ [289, 23, 15, 136, 19, 290, 291, 292, 22, 293, 54, 294, 295, 296, 272, 297, 298, 299, 300, 301, 302, 303, 304, 305, 306, 307, 308, 309, 310, 33, 311, 312, 313, 314, 315, 316, 317, 318, 319, 320, 321, 322, 323, 324, 325, 326, 327, 328, 329, 330, 331, 52, 332, 333, 334, 335, 336, 337, 338, 339, 340, 341, 342, 343, 344, 345, 346, 347, 348, 349, 350, 351, 352, 353, 354, 355, 356, 357, 358, 359, 360, 361, 362, 363, 364, 365, 366, 367, 368, 369, 370, 371, 372, 373, 374, 375, 376, 377, 378, 379, 380, 381, 382, 147, 148, 149, 383, 145, 146, 384, 151, 152, 385, 386, 176, 177, 178, 170, 41, 153, 154, 155, 18, 156, 157, 47, 158, 159, 160, 161, 162, 163, 164, 14, 165, 34, 35, 36, 166, 167, 168, 169, 171, 172, 173, 174, 387, 388, 389, 390, 391, 226, 227, 228, 229, 212, 205, 206, 207, 392, 856, 857, 858, 859, 887, 888, 889, 904, 905, 892, 893, 894, 895, 896, 897, 890, 891] (by decide +kernel) (by decide +kernel)
set_option maxRecDepth 20000 in
theorem gL_law_X11_read : GoodIn wsL_law (wsV RL 49 RX11 yX11_read wsX11_read) := goodIn_app (goodIn_of _ (by decide +kernel)) ggL_law_X11_read
set_option maxRecDepth 20000 in
theorem ggL_law_X12_read : GoodIn wsL_law wsX12_read := goodIn_r _ [396, 112, 397, 184, 115, 116, 277, 398, 399, 400, 5, 401, 402, 403, 404, 405, 406, 407, 408, 409, 410, 411, 412, 413, 414, 415, 416, 417, 418, 419, 114, 420, 421, 422, 423, 424, 425, 426, 427, 185, 186, 187, 191, 192, 193, 194, 195, 113, 196, 197, 198, 199, 860, 861, 862, 863, 864, 865, 866, 867, 868, 869, 870, 871, 872, 873, 874, 875, 876, 877, 878, 879, 880, 881, 882, 883, 884, 885, 886] (by decide +kernel) (by decide +kernel)
set_option maxRecDepth 20000 in
theorem gL_law_X12_read : GoodIn wsL_law (wsV RL 52 RX12 yX12_read wsX12_read) := goodIn_app (goodIn_of _ (by decide +kernel)) ggL_law_X12_read
set_option maxRecDepth 20000 in
theorem ggL_law_X11_shoot : GoodIn wsL_law wsX11_shoot := goodIn_r _ [431, 258, 135, 27, 15, 432, 141, 142, 143, 433, 434, 435, 436, 437, 438, 26, 439, 64, 68, 72, 76, 440, 441, 442, 443, 63, 444, 445, 446, 447, 448, 449, 450, 67, 451, 88, 452, 453, 95, 96, 71, 97, 93, 98, 454, 455, 456, 75, 457, 458, 459, 460, 461, 462, 102, 463, 464, 465, 466, 467, 468, 307, 469, 470, 471, 472, 473, 474, 475, 476, 477, 478, 479, 60, 480, 481, 482, 78, 483, 484, 485, 486, 487, 488, 489, 490, 491, 492, 493, 494, 495, 496, 497, 498, 499, 500, 501, 502, 503, 504, 505, 506, 507, 83, 508, 509, 510, 511, 512, 513, 514, 515, 516, 517, 518, 519, 520, 33, 521, 391, 226, 227, 228, 229, 41, 212, 205, 206, 207, 170, 522, 523, 524, 525, 526, 527, 528, 529, 530, 531, 532, 533, 534, 535, 536, 537, 538, 539, 540, 541, 542, 543, 544, 545, 546, 547, 548, 549, 550, 84, 856, 857, 858, 859, 898, 899, 900, 901, 902, 903, 906, 907, 908, 909, 910, 911, 912, 913, 914, 915, 916, 917, 918, 919, 920, 921, 887, 888, 889, 904, 905] (by decide +kernel) (by decide +kernel)
set_option maxRecDepth 20000 in
theorem gL_law_X11_shoot : GoodIn wsL_law (wsV RL 53 RX11 yX11_shoot wsX11_shoot) := goodIn_app (goodIn_of _ (by decide +kernel)) ggL_law_X11_shoot
set_option maxRecDepth 20000 in
theorem ggL_law_X12_shoot : GoodIn wsL_law wsX12_shoot := goodIn_r _ [554, 263, 183, 555, 556, 557, 558, 125, 126, 128, 559, 560, 5, 561, 185, 186, 187, 562, 563, 564, 565, 566, 567, 568, 117, 118, 120, 119, 122, 569, 570, 571, 572, 573, 574, 575, 576, 577, 578, 579, 580, 581, 582, 583, 584, 585, 586, 587, 588, 123, 124, 112, 589, 590, 591, 592, 593, 594, 595, 596, 597, 598, 599, 600, 601, 602, 603, 604, 127, 860, 861, 862, 863, 864, 865, 866, 867, 868, 869, 870, 871, 872, 873, 874, 875, 876, 877, 878, 879, 880, 881, 882, 883, 884, 885, 886] (by decide +kernel) (by decide +kernel)
set_option maxRecDepth 20000 in
theorem gL_law_X12_shoot : GoodIn wsL_law (wsV RL 57 RX12 yX12_shoot wsX12_shoot) := goodIn_app (goodIn_of _ (by decide +kernel)) ggL_law_X12_shoot
set_option maxRecDepth 20000 in
theorem ggL_law_X11_hits : GoodIn wsL_law wsX11_hits := goodIn_r _ [608, 27, 856, 857, 858, 859, 898, 899, 900, 901, 902, 903, 906, 907, 908, 909, 910] (by decide +kernel) (by decide +kernel)
set_option maxRecDepth 20000 in
theorem gL_law_X11_hits : GoodIn wsL_law (wsV RL 58 RX11 yX11_hits wsX11_hits) := goodIn_app (goodIn_of _ (by decide +kernel)) ggL_law_X11_hits
set_option maxRecDepth 20000 in
theorem ggL_law_X12_hits : GoodIn wsL_law wsX12_hits := goodIn_r _ [612, 558, 860, 861, 862, 863, 864, 865, 866, 867, 868, 869, 870, 871, 872, 873, 874, 875, 876, 877, 878, 879, 880, 881, 882, 883, 884, 885, 886] (by decide +kernel) (by decide +kernel)
set_option maxRecDepth 20000 in
theorem gL_law_X12_hits : GoodIn wsL_law (wsV RL 61 RX12 yX12_hits wsX12_hits) := goodIn_app (goodIn_of _ (by decide +kernel)) ggL_law_X12_hits
set_option maxRecDepth 20000 in
theorem ggL_law_X11_hit : GoodIn wsL_law wsX11_hit := goodIn_r _ [616, 27, 617, 618, 619, 63, 620, 445, 621, 83, 856, 857, 858, 859, 898, 899, 900, 901, 902, 903, 906, 907, 908, 909, 910] (by decide +kernel) (by decide +kernel)
set_option maxRecDepth 20000 in
theorem gL_law_X11_hit : GoodIn wsL_law (wsV RL 62 RX11 yX11_hit wsX11_hit) := goodIn_app (goodIn_of _ (by decide +kernel)) ggL_law_X11_hit
set_option maxRecDepth 20000 in
theorem ggL_law_X12_hit : GoodIn wsL_law wsX12_hit := goodIn_r _ [625, 558, 123, 626, 185, 186, 5, 187, 860, 861, 862, 863, 864, 865, 866, 867, 868, 869, 870, 871, 872, 873, 874, 875, 876, 877, 878, 879, 880, 881, 882, 883, 884, 885, 886] (by decide +kernel) (by decide +kernel)
set_option maxRecDepth 20000 in
theorem gL_law_X12_hit : GoodIn wsL_law (wsV RL 66 RX12 yX12_hit wsX12_hit) := goodIn_app (goodIn_of _ (by decide +kernel)) ggL_law_X12_hit
set_option maxRecDepth 20000 in
theorem ggL_law_X11_rays : GoodIn wsL_law wsX11_rays := goodIn_r _ [630, 27, 856, 857, 858, 859, 898, 899, 900, 901, 902, 903] (by decide +kernel) (by decide +kernel)
set_option maxRecDepth 20000 in
theorem gL_law_X11_rays : GoodIn wsL_law (wsV RL 67 RX11 yX11_rays wsX11_rays) := goodIn_app (goodIn_of _ (by decide +kernel)) ggL_law_X11_rays
set_option maxRecDepth 20000 in
theorem ggL_law_X12_rays : GoodIn wsL_law wsX12_rays := goodIn_r _ [634, 557, 860, 861, 862, 863, 864, 865, 866, 867, 868, 869, 870, 871, 872, 873, 874, 875, 876, 877, 878, 879, 880, 881, 882, 883, 884, 885, 886] (by decide +kernel) (by decide +kernel)
set_option maxRecDepth 20000 in
theorem gL_law_X12_rays : GoodIn wsL_law (wsV RL 70 RX12 yX12_rays wsX12_rays) := goodIn_app (goodIn_of _ (by decide +kernel)) ggL_law_X12_rays
set_option maxRecDepth 20000 in
theorem ggL_law_X11_coverage : GoodIn wsL_law wsX11_coverage := goodIn_r _ [638, 27, 856, 857, 858, 859, 898, 899, 900, 901, 902, 903, 911, 912] (by decide +kernel) (by decide +kernel)
set_option maxRecDepth 20000 in
theorem gL_law_X11_coverage : GoodIn wsL_law (wsV RL 71 RX11 yX11_coverage wsX11_coverage) := goodIn_app (goodIn_of _ (by decide +kernel)) ggL_law_X11_coverage
set_option maxRecDepth 20000 in
theorem ggL_law_X12_coverage : GoodIn wsL_law wsX12_coverage := goodIn_r _ [642, 643, 644, 645, 5, 646, 129, 558, 123, 860, 861, 862, 863, 864, 865, 866, 867, 868, 869, 870, 871, 872, 873, 874, 875, 876, 877, 878, 879, 880, 881, 882, 883, 884, 885, 886] (by decide +kernel) (by decide +kernel)
set_option maxRecDepth 20000 in
theorem gL_law_X12_coverage : GoodIn wsL_law (wsV RL 74 RX12 yX12_coverage wsX12_coverage) := goodIn_app (goodIn_of _ (by decide +kernel)) ggL_law_X12_coverage
set_option maxRecDepth 20000 in
theorem ggL_law_X11_gap : GoodIn wsL_law wsX11_gap := goodIn_r _ [650, 27, 651, 652, 653, 67, 654, 452, 88, 655, 306, 307, 308, 656, 657, 658, 659, 660, 661, 662, 663, 664, 665, 856, 857, 858, 859, 898, 899, 900, 901, 902, 903, 911, 912] (by decide +kernel) (by decide +kernel)
set_option maxRecDepth 20000 in
theorem gL_law_X11_gap : GoodIn wsL_law (wsV RL 75 RX11 yX11_gap wsX11_gap) := goodIn_app (goodIn_of _ (by decide +kernel)) ggL_law_X11_gap
set_option maxRecDepth 20000 in
theorem ggL_law_X12_gap : GoodIn wsL_law wsX12_gap := goodIn_r _ [669, 670, 129, 643, 644, 645, 5, 646, 558, 123, 860, 861, 862, 863, 864, 865, 866, 867, 868, 869, 870, 871, 872, 873, 874, 875, 876, 877, 878, 879, 880, 881, 882, 883, 884, 885, 886] (by decide +kernel) (by decide +kernel)
set_option maxRecDepth 20000 in
theorem gL_law_X12_gap : GoodIn wsL_law (wsV RL 78 RX12 yX12_gap wsX12_gap) := goodIn_app (goodIn_of _ (by decide +kernel)) ggL_law_X12_gap
set_option maxRecDepth 20000 in
theorem ggL_law_X11_heard : GoodIn wsL_law wsX11_heard := goodIn_r _ [674, 27, 675, 676, 677, 71, 678, 679, 93, 856, 857, 858, 859, 898, 899, 900, 901, 902, 903, 913] (by decide +kernel) (by decide +kernel)
set_option maxRecDepth 20000 in
theorem gL_law_X11_heard : GoodIn wsL_law (wsV RL 79 RX11 yX11_heard wsX11_heard) := goodIn_app (goodIn_of _ (by decide +kernel)) ggL_law_X11_heard
set_option maxRecDepth 20000 in
theorem ggL_law_X12_heard : GoodIn wsL_law wsX12_heard := goodIn_r _ [683, 626, 185, 186, 5, 187, 684, 685, 686, 687, 125, 688, 127, 126, 128, 860, 861, 862, 863, 864, 865, 866, 867, 868, 869, 870, 871, 872, 873, 874, 875, 876, 877, 878, 879, 880, 881, 882, 883, 884, 885, 886] (by decide +kernel) (by decide +kernel)
set_option maxRecDepth 20000 in
theorem gL_law_X12_heard : GoodIn wsL_law (wsV RL 82 RX12 yX12_heard wsX12_heard) := goodIn_app (goodIn_of _ (by decide +kernel)) ggL_law_X12_heard
set_option maxRecDepth 20000 in
theorem ggL_law_X11_echo : GoodIn wsL_law wsX11_echo := goodIn_r _ [692, 27, 693, 694, 695, 63, 696, 697, 446, 84, 698, 856, 857, 858, 859, 898, 899, 900, 901, 902, 903, 906, 907, 908, 909, 910] (by decide +kernel) (by decide +kernel)
set_option maxRecDepth 20000 in
theorem gL_law_X11_echo : GoodIn wsL_law (wsV RL 83 RX11 yX11_echo wsX11_echo) := goodIn_app (goodIn_of _ (by decide +kernel)) ggL_law_X11_echo
set_option maxRecDepth 20000 in
theorem ggL_law_X12_echo : GoodIn wsL_law wsX12_echo := goodIn_r _ [702, 183, 558, 124, 573, 860, 861, 862, 863, 864, 865, 866, 867, 868, 869, 870, 871, 872, 873, 874, 875, 876, 877, 878, 879, 880, 881, 882, 883, 884, 885, 886] (by decide +kernel) (by decide +kernel)
set_option maxRecDepth 20000 in
theorem gL_law_X12_echo : GoodIn wsL_law (wsV RL 86 RX12 yX12_echo wsX12_echo) := goodIn_app (goodIn_of _ (by decide +kernel)) ggL_law_X12_echo
set_option maxRecDepth 20000 in
theorem ggL_law_X11_mean : GoodIn wsL_law wsX11_mean := goodIn_r _ [706, 27, 707, 708, 709, 63, 710, 445, 447, 856, 857, 858, 859, 898, 899, 900, 901, 902, 903, 906, 907, 908, 909, 910] (by decide +kernel) (by decide +kernel)
set_option maxRecDepth 20000 in
theorem gL_law_X11_mean : GoodIn wsL_law (wsV RL 87 RX11 yX11_mean wsX11_mean) := goodIn_app (goodIn_of _ (by decide +kernel)) ggL_law_X11_mean
set_option maxRecDepth 20000 in
theorem ggL_law_X12_mean : GoodIn wsL_law wsX12_mean := goodIn_r _ [714, 558, 123, 860, 861, 862, 863, 864, 865, 866, 867, 868, 869, 870, 871, 872, 873, 874, 875, 876, 877, 878, 879, 880, 881, 882, 883, 884, 885, 886] (by decide +kernel) (by decide +kernel)
set_option maxRecDepth 20000 in
theorem gL_law_X12_mean : GoodIn wsL_law (wsV RL 91 RX12 yX12_mean wsX12_mean) := goodIn_app (goodIn_of _ (by decide +kernel)) ggL_law_X12_mean
set_option maxRecDepth 20000 in
theorem ggL_law_X11_crossings : GoodIn wsL_law wsX11_crossings := goodIn_r _ [718, 135, 27, 719, 720, 721, 75, 722, 458, 723, 724, 307, 725, 102, 726, 727, 728, 729, 306, 308, 730, 731, 732, 733, 734, 735, 856, 857, 858, 859, 898, 899, 900, 901, 902, 903, 914, 915] (by decide +kernel) (by decide +kernel)
set_option maxRecDepth 20000 in
theorem gL_law_X11_crossings : GoodIn wsL_law (wsV RL 92 RX11 yX11_crossings wsX11_crossings) := goodIn_app (goodIn_of _ (by decide +kernel)) ggL_law_X11_crossings
set_option maxRecDepth 20000 in
theorem ggL_law_X12_crossings : GoodIn wsL_law wsX12_crossings := goodIn_r _ [739, 183, 130, 556, 558, 123, 185, 186, 5, 187, 740, 741, 742, 743, 744, 745, 746, 860, 861, 862, 863, 864, 865, 866, 867, 868, 869, 870, 871, 872, 873, 874, 875, 876, 877, 878, 879, 880, 881, 882, 883, 884, 885, 886] (by decide +kernel) (by decide +kernel)
set_option maxRecDepth 20000 in
theorem gL_law_X12_crossings : GoodIn wsL_law (wsV RL 95 RX12 yX12_crossings wsX12_crossings) := goodIn_app (goodIn_of _ (by decide +kernel)) ggL_law_X12_crossings
set_option maxRecDepth 20000 in
theorem ggL_law_X11_time : GoodIn wsL_law wsX11_time := goodIn_r _ [750, 135, 433, 434, 142, 435, 751, 464, 465, 466, 467, 468, 307, 469, 470, 471, 472, 473, 474, 475] (by decide +kernel) (by decide +kernel)
set_option maxRecDepth 20000 in
theorem gL_law_X11_time : GoodIn wsL_law (wsV RL 96 RX11 yX11_time wsX11_time) := goodIn_app (goodIn_of _ (by decide +kernel)) ggL_law_X11_time
set_option maxRecDepth 20000 in
theorem ggL_law_X12_time : GoodIn wsL_law wsX12_time := goodIn_r _ [755, 183, 562, 563, 5, 564, 185, 186, 187, 574, 575, 576, 577, 578, 579, 580, 581, 582, 583, 584] (by decide +kernel) (by decide +kernel)
set_option maxRecDepth 20000 in
theorem gL_law_X12_time : GoodIn wsL_law (wsV RL 99 RX12 yX12_time wsX12_time) := goodIn_app (goodIn_of _ (by decide +kernel)) ggL_law_X12_time
set_option maxRecDepth 20000 in
theorem ggL_law_X11_caustic : GoodIn wsL_law wsX11_caustic := goodIn_r _ [759, 135, 433, 434, 142, 435, 760, 761, 762, 763, 467, 468, 307, 469, 470, 471, 472, 473, 474, 475] (by decide +kernel) (by decide +kernel)
set_option maxRecDepth 20000 in
theorem gL_law_X11_caustic : GoodIn wsL_law (wsV RL 100 RX11 yX11_caustic wsX11_caustic) := goodIn_app (goodIn_of _ (by decide +kernel)) ggL_law_X11_caustic
set_option maxRecDepth 20000 in
theorem ggL_law_X12_caustic : GoodIn wsL_law wsX12_caustic := goodIn_r _ [767, 183, 562, 563, 5, 564, 185, 186, 187, 768, 769, 770, 771, 578, 579, 580, 581, 582, 583, 584] (by decide +kernel) (by decide +kernel)
set_option maxRecDepth 20000 in
theorem gL_law_X12_caustic : GoodIn wsL_law (wsV RL 103 RX12 yX12_caustic wsX12_caustic) := goodIn_app (goodIn_of _ (by decide +kernel)) ggL_law_X12_caustic
set_option maxRecDepth 20000 in
theorem ggL_law_X11_order : GoodIn wsL_law wsX11_order := goodIn_r _ [775, 135, 433, 434, 142, 435, 776, 777, 778, 467, 468, 307, 469] (by decide +kernel) (by decide +kernel)
set_option maxRecDepth 20000 in
theorem gL_law_X11_order : GoodIn wsL_law (wsV RL 104 RX11 yX11_order wsX11_order) := goodIn_app (goodIn_of _ (by decide +kernel)) ggL_law_X11_order
set_option maxRecDepth 20000 in
theorem ggL_law_X12_order : GoodIn wsL_law wsX12_order := goodIn_r _ [782, 183, 562, 563, 5, 564, 185, 186, 187, 783, 784, 785, 786, 787, 788] (by decide +kernel) (by decide +kernel)
set_option maxRecDepth 20000 in
theorem gL_law_X12_order : GoodIn wsL_law (wsV RL 107 RX12 yX12_order wsX12_order) := goodIn_app (goodIn_of _ (by decide +kernel)) ggL_law_X12_order
set_option maxRecDepth 20000 in
theorem ggL_law_X11_turns : GoodIn wsL_law wsX11_turns := goodIn_r _ [792, 793, 468, 307, 469, 135, 433, 434, 142, 435, 776, 777, 778, 467] (by decide +kernel) (by decide +kernel)
set_option maxRecDepth 20000 in
theorem gL_law_X11_turns : GoodIn wsL_law (wsV RL 108 RX11 yX11_turns wsX11_turns) := goodIn_app (goodIn_of _ (by decide +kernel)) ggL_law_X11_turns
set_option maxRecDepth 20000 in
theorem ggL_law_X12_turns : GoodIn wsL_law wsX12_turns := goodIn_r _ [797, 183, 562, 563, 5, 564, 185, 186, 187, 783, 784, 785, 786, 787, 788] (by decide +kernel) (by decide +kernel)
set_option maxRecDepth 20000 in
theorem gL_law_X12_turns : GoodIn wsL_law (wsV RL 111 RX12 yX12_turns wsX12_turns) := goodIn_app (goodIn_of _ (by decide +kernel)) ggL_law_X12_turns
set_option maxRecDepth 20000 in
theorem ggL_law_X11_aim : GoodIn wsL_law wsX11_aim := goodIn_r _ [801, 135, 802, 432, 141, 142, 143, 803, 804, 805, 806, 434, 435, 807, 808, 809, 467, 468, 307, 469] (by decide +kernel) (by decide +kernel)
set_option maxRecDepth 20000 in
theorem gL_law_X11_aim : GoodIn wsL_law (wsV RL 112 RX11 yX11_aim wsX11_aim) := goodIn_app (goodIn_of _ (by decide +kernel)) ggL_law_X11_aim
set_option maxRecDepth 20000 in
theorem ggL_law_X12_aim : GoodIn wsL_law wsX12_aim := goodIn_r _ [813, 183, 573, 559, 560, 5, 561, 185, 186, 187] (by decide +kernel) (by decide +kernel)
set_option maxRecDepth 20000 in
theorem gL_law_X12_aim : GoodIn wsL_law (wsV RL 115 RX12 yX12_aim wsX12_aim) := goodIn_app (goodIn_of _ (by decide +kernel)) ggL_law_X12_aim
set_option maxRecDepth 20000 in
theorem ggL_law_X11_widest : GoodIn wsL_law wsX11_widest := goodIn_r _ [817, 258, 135, 802, 760, 761, 142, 762, 763, 467, 468, 307, 469, 470, 471, 472, 473, 474, 475] (by decide +kernel) (by decide +kernel)
set_option maxRecDepth 20000 in
theorem gL_law_X11_widest : GoodIn wsL_law (wsV RL 116 RX11 yX11_widest wsX11_widest) := goodIn_app (goodIn_of _ (by decide +kernel)) ggL_law_X11_widest
set_option maxRecDepth 20000 in
theorem ggL_law_X12_widest : GoodIn wsL_law wsX12_widest := goodIn_r _ [821, 263, 183, 573, 185, 186, 5, 187, 786, 787, 788, 768, 769, 770, 771, 578, 579, 580, 581, 582, 583, 584] (by decide +kernel) (by decide +kernel)
set_option maxRecDepth 20000 in
theorem gL_law_X12_widest : GoodIn wsL_law (wsV RL 119 RX12 yX12_widest wsX12_widest) := goodIn_app (goodIn_of _ (by decide +kernel)) ggL_law_X12_widest
set_option maxRecDepth 20000 in
theorem ggL_law_X11_undo : GoodIn wsL_law wsX11_undo := goodIn_r _ [825, 19, 802, 15, 826, 827, 828, 18, 829, 157, 47, 162, 163, 164, 14, 165, 34, 35, 36, 166, 167, 168, 33, 169, 41, 170, 171, 172, 173, 174, 856, 857, 858, 859, 890, 891, 887, 888, 889, 904, 905] (by decide +kernel) (by decide +kernel)
set_option maxRecDepth 20000 in
theorem gL_law_X11_undo : GoodIn wsL_law (wsV RL 120 RX11 yX11_undo wsX11_undo) := goodIn_app (goodIn_of _ (by decide +kernel)) ggL_law_X11_undo
set_option maxRecDepth 20000 in
theorem ggL_law_X12_undo : GoodIn wsL_law wsX12_undo := goodIn_r _ [833, 195, 573, 112, 113, 860, 861, 862, 863, 864, 865, 866, 867, 868, 869, 870, 871, 872, 873, 874, 875, 876, 877, 878, 879, 880, 881, 882, 883, 884, 885, 886] (by decide +kernel) (by decide +kernel)
set_option maxRecDepth 20000 in
theorem gL_law_X12_undo : GoodIn wsL_law (wsV RL 123 RX12 yX12_undo wsX12_undo) := goodIn_app (goodIn_of _ (by decide +kernel)) ggL_law_X12_undo
set_option maxRecDepth 20000 in
theorem ggL_law_X11_fingerprint : GoodIn wsL_law wsX11_fingerprint := goodIn_r _ [837, 838, 15, 839, 235, 236, 2, 237, 840, 841, 842, 843, 844, 222, 223, 224, 225, 226, 227, 33, 228, 229, 41, 212, 205, 206, 207, 170, 845, 606, 607, 608, 27, 846, 628, 629, 630, 847, 636, 637, 638, 848, 614, 615, 616, 617, 618, 619, 63, 620, 445, 621, 83, 849, 672, 673, 674, 675, 676, 677, 71, 678, 679, 93, 856, 857, 858, 859, 887, 888, 889, 904, 905, 898, 899, 900, 901, 902, 903, 906, 907, 908, 909, 910, 911, 912, 913] (by decide +kernel) (by decide +kernel)
set_option maxRecDepth 20000 in
theorem gL_law_X11_fingerprint : GoodIn wsL_law (wsV RL 124 RX11 yX11_fingerprint wsX11_fingerprint) := goodIn_app (goodIn_of _ (by decide +kernel)) ggL_law_X11_fingerprint
set_option maxRecDepth 20000 in
theorem ggL_law_X12_fingerprint : GoodIn wsL_law wsX12_fingerprint := goodIn_r _ [853, 854, 112, 855, 558, 557, 123, 643, 644, 645, 5, 646, 129, 684, 685, 686, 687, 125, 688, 127, 126, 128, 860, 861, 862, 863, 864, 865, 866, 867, 868, 869, 870, 871, 872, 873, 874, 875, 876, 877, 878, 879, 880, 881, 882, 883, 884, 885, 886] (by decide +kernel) (by decide +kernel)
set_option maxRecDepth 20000 in
theorem gL_law_X12_fingerprint : GoodIn wsL_law (wsV RL 128 RX12 yX12_fingerprint wsX12_fingerprint) := goodIn_app (goodIn_of _ (by decide +kernel)) ggL_law_X12_fingerprint
theorem dL_law_0 : decode cL_law 0 = .ok (.new 7, 3) := by decide +kernel
theorem dL_law_3 : decode cL_law 3 = .ok (.dup, 1) := by decide +kernel
theorem dL_law_4 : decode cL_law 4 = .ok (.invokespecial 9, 3) := by decide +kernel
theorem dL_law_7 : decode cL_law 7 = .ok (.astore_n 1, 1) := by decide +kernel
theorem dL_law_8 : decode cL_law 8 = .ok (.new 10, 3) := by decide +kernel
theorem dL_law_11 : decode cL_law 11 = .ok (.dup, 1) := by decide +kernel
theorem dL_law_12 : decode cL_law 12 = .ok (.invokespecial 12, 3) := by decide +kernel
theorem dL_law_15 : decode cL_law 15 = .ok (.astore_n 2, 1) := by decide +kernel
theorem dL_law_16 : decode cL_law 16 = .ok (.iconst 0, 1) := by decide +kernel
theorem dL_law_17 : decode cL_law 17 = .ok (.istore_n 3, 1) := by decide +kernel
theorem dL_law_18 : decode cL_law 18 = .ok (.iload_n 3, 1) := by decide +kernel
theorem dL_law_19 : decode cL_law 19 = .ok (.aload_n 0, 1) := by decide +kernel
theorem dL_law_20 : decode cL_law 20 = .ok (.arraylength, 1) := by decide +kernel
theorem dL_law_21 : decode cL_law 21 = .ok (.iconst 5, 1) := by decide +kernel
theorem dL_law_22 : decode cL_law 22 = .ok (.isub, 1) := by decide +kernel
theorem dL_law_23 : decode cL_law 23 = .ok (.if_icmp .gt 793, 3) := by decide +kernel
theorem dL_law_26 : decode cL_law 26 = .ok (.aload_n 0, 1) := by decide +kernel
theorem dL_law_27 : decode cL_law 27 = .ok (.iload_n 3, 1) := by decide +kernel
theorem dL_law_28 : decode cL_law 28 = .ok (.iaload, 1) := by decide +kernel
theorem dL_law_29 : decode cL_law 29 = .ok (.bipush 31, 2) := by decide +kernel
theorem dL_law_31 : decode cL_law 31 = .ok (.iand, 1) := by decide +kernel
theorem dL_law_32 : decode cL_law 32 = .ok (.tableswitch 778 0 26 #[124, 177, 200, 233, 246, 269, 292, 315, 328, 341, 384, 397, 431, 444, 457, 470, 504, 527, 570, 593, 616, 639, 662, 685, 728, 751, 764], 124) := by decide +kernel
theorem dL_law_156 : decode cL_law 156 = .ok (.aload_n 1, 1) := by decide +kernel
theorem dL_law_157 : decode cL_law 157 = .ok (.aload_n 0, 1) := by decide +kernel
theorem dL_law_158 : decode cL_law 158 = .ok (.iload_n 3, 1) := by decide +kernel
theorem dL_law_159 : decode cL_law 159 = .ok (.iconst 1, 1) := by decide +kernel
theorem dL_law_160 : decode cL_law 160 = .ok (.iadd, 1) := by decide +kernel
theorem dL_law_161 : decode cL_law 161 = .ok (.iaload, 1) := by decide +kernel
theorem dL_law_162 : decode cL_law 162 = .ok (.aload_n 0, 1) := by decide +kernel
theorem dL_law_163 : decode cL_law 163 = .ok (.iload_n 3, 1) := by decide +kernel
theorem dL_law_164 : decode cL_law 164 = .ok (.iconst 2, 1) := by decide +kernel
theorem dL_law_165 : decode cL_law 165 = .ok (.iadd, 1) := by decide +kernel
theorem dL_law_166 : decode cL_law 166 = .ok (.iaload, 1) := by decide +kernel
theorem dL_law_167 : decode cL_law 167 = .ok (.aload_n 0, 1) := by decide +kernel
theorem dL_law_168 : decode cL_law 168 = .ok (.iload_n 3, 1) := by decide +kernel
theorem dL_law_169 : decode cL_law 169 = .ok (.iconst 3, 1) := by decide +kernel
theorem dL_law_170 : decode cL_law 170 = .ok (.iadd, 1) := by decide +kernel
theorem dL_law_171 : decode cL_law 171 = .ok (.iaload, 1) := by decide +kernel
theorem dL_law_172 : decode cL_law 172 = .ok (.aload_n 0, 1) := by decide +kernel
theorem dL_law_173 : decode cL_law 173 = .ok (.iload_n 3, 1) := by decide +kernel
theorem dL_law_174 : decode cL_law 174 = .ok (.iconst 4, 1) := by decide +kernel
theorem dL_law_175 : decode cL_law 175 = .ok (.iadd, 1) := by decide +kernel
theorem dL_law_176 : decode cL_law 176 = .ok (.iaload, 1) := by decide +kernel
theorem dL_law_177 : decode cL_law 177 = .ok (.invokevirtual 13, 3) := by decide +kernel
theorem dL_law_180 : decode cL_law 180 = .ok (.aload_n 2, 1) := by decide +kernel
theorem dL_law_181 : decode cL_law 181 = .ok (.aload_n 0, 1) := by decide +kernel
theorem dL_law_182 : decode cL_law 182 = .ok (.iload_n 3, 1) := by decide +kernel
theorem dL_law_183 : decode cL_law 183 = .ok (.iconst 1, 1) := by decide +kernel
theorem dL_law_184 : decode cL_law 184 = .ok (.iadd, 1) := by decide +kernel
theorem dL_law_185 : decode cL_law 185 = .ok (.iaload, 1) := by decide +kernel
theorem dL_law_186 : decode cL_law 186 = .ok (.aload_n 0, 1) := by decide +kernel
theorem dL_law_187 : decode cL_law 187 = .ok (.iload_n 3, 1) := by decide +kernel
theorem dL_law_188 : decode cL_law 188 = .ok (.iconst 2, 1) := by decide +kernel
theorem dL_law_189 : decode cL_law 189 = .ok (.iadd, 1) := by decide +kernel
theorem dL_law_190 : decode cL_law 190 = .ok (.iaload, 1) := by decide +kernel
theorem dL_law_191 : decode cL_law 191 = .ok (.aload_n 0, 1) := by decide +kernel
theorem dL_law_192 : decode cL_law 192 = .ok (.iload_n 3, 1) := by decide +kernel
theorem dL_law_193 : decode cL_law 193 = .ok (.iconst 3, 1) := by decide +kernel
theorem dL_law_194 : decode cL_law 194 = .ok (.iadd, 1) := by decide +kernel
theorem dL_law_195 : decode cL_law 195 = .ok (.iaload, 1) := by decide +kernel
theorem dL_law_196 : decode cL_law 196 = .ok (.aload_n 0, 1) := by decide +kernel
theorem dL_law_197 : decode cL_law 197 = .ok (.iload_n 3, 1) := by decide +kernel
theorem dL_law_198 : decode cL_law 198 = .ok (.iconst 4, 1) := by decide +kernel
theorem dL_law_199 : decode cL_law 199 = .ok (.iadd, 1) := by decide +kernel
theorem dL_law_200 : decode cL_law 200 = .ok (.iaload, 1) := by decide +kernel
theorem dL_law_201 : decode cL_law 201 = .ok (.invokevirtual 17, 3) := by decide +kernel
theorem dL_law_204 : decode cL_law 204 = .ok (.if_icmp .eq 606, 3) := by decide +kernel
theorem dL_law_207 : decode cL_law 207 = .ok (.iconst 0, 1) := by decide +kernel
theorem dL_law_208 : decode cL_law 208 = .ok (.ireturn, 1) := by decide +kernel
theorem dL_law_209 : decode cL_law 209 = .ok (.aload_n 1, 1) := by decide +kernel
theorem dL_law_210 : decode cL_law 210 = .ok (.aload_n 0, 1) := by decide +kernel
theorem dL_law_211 : decode cL_law 211 = .ok (.iload_n 3, 1) := by decide +kernel
theorem dL_law_212 : decode cL_law 212 = .ok (.iconst 1, 1) := by decide +kernel
theorem dL_law_213 : decode cL_law 213 = .ok (.iadd, 1) := by decide +kernel
theorem dL_law_214 : decode cL_law 214 = .ok (.iaload, 1) := by decide +kernel
theorem dL_law_215 : decode cL_law 215 = .ok (.invokevirtual 18, 3) := by decide +kernel
theorem dL_law_218 : decode cL_law 218 = .ok (.aload_n 2, 1) := by decide +kernel
theorem dL_law_219 : decode cL_law 219 = .ok (.aload_n 0, 1) := by decide +kernel
theorem dL_law_220 : decode cL_law 220 = .ok (.iload_n 3, 1) := by decide +kernel
theorem dL_law_221 : decode cL_law 221 = .ok (.iconst 1, 1) := by decide +kernel
theorem dL_law_222 : decode cL_law 222 = .ok (.iadd, 1) := by decide +kernel
theorem dL_law_223 : decode cL_law 223 = .ok (.iaload, 1) := by decide +kernel
theorem dL_law_224 : decode cL_law 224 = .ok (.invokevirtual 22, 3) := by decide +kernel
theorem dL_law_227 : decode cL_law 227 = .ok (.if_icmp .eq 583, 3) := by decide +kernel
theorem dL_law_230 : decode cL_law 230 = .ok (.iconst 0, 1) := by decide +kernel
theorem dL_law_231 : decode cL_law 231 = .ok (.ireturn, 1) := by decide +kernel
theorem dL_law_232 : decode cL_law 232 = .ok (.aload_n 1, 1) := by decide +kernel
theorem dL_law_233 : decode cL_law 233 = .ok (.aload_n 0, 1) := by decide +kernel
theorem dL_law_234 : decode cL_law 234 = .ok (.iload_n 3, 1) := by decide +kernel
theorem dL_law_235 : decode cL_law 235 = .ok (.iconst 1, 1) := by decide +kernel
theorem dL_law_236 : decode cL_law 236 = .ok (.iadd, 1) := by decide +kernel
theorem dL_law_237 : decode cL_law 237 = .ok (.iaload, 1) := by decide +kernel
theorem dL_law_238 : decode cL_law 238 = .ok (.aload_n 0, 1) := by decide +kernel
theorem dL_law_239 : decode cL_law 239 = .ok (.iload_n 3, 1) := by decide +kernel
theorem dL_law_240 : decode cL_law 240 = .ok (.iconst 2, 1) := by decide +kernel
theorem dL_law_241 : decode cL_law 241 = .ok (.iadd, 1) := by decide +kernel
theorem dL_law_242 : decode cL_law 242 = .ok (.iaload, 1) := by decide +kernel
theorem dL_law_243 : decode cL_law 243 = .ok (.invokevirtual 23, 3) := by decide +kernel
theorem dL_law_246 : decode cL_law 246 = .ok (.aload_n 2, 1) := by decide +kernel
theorem dL_law_247 : decode cL_law 247 = .ok (.aload_n 0, 1) := by decide +kernel
theorem dL_law_248 : decode cL_law 248 = .ok (.iload_n 3, 1) := by decide +kernel
theorem dL_law_249 : decode cL_law 249 = .ok (.iconst 1, 1) := by decide +kernel
theorem dL_law_250 : decode cL_law 250 = .ok (.iadd, 1) := by decide +kernel
theorem dL_law_251 : decode cL_law 251 = .ok (.iaload, 1) := by decide +kernel
theorem dL_law_252 : decode cL_law 252 = .ok (.aload_n 0, 1) := by decide +kernel
theorem dL_law_253 : decode cL_law 253 = .ok (.iload_n 3, 1) := by decide +kernel
theorem dL_law_254 : decode cL_law 254 = .ok (.iconst 2, 1) := by decide +kernel
theorem dL_law_255 : decode cL_law 255 = .ok (.iadd, 1) := by decide +kernel
theorem dL_law_256 : decode cL_law 256 = .ok (.iaload, 1) := by decide +kernel
theorem dL_law_257 : decode cL_law 257 = .ok (.invokevirtual 27, 3) := by decide +kernel
theorem dL_law_260 : decode cL_law 260 = .ok (.if_icmp .eq 550, 3) := by decide +kernel
theorem dL_law_263 : decode cL_law 263 = .ok (.iconst 0, 1) := by decide +kernel
theorem dL_law_264 : decode cL_law 264 = .ok (.ireturn, 1) := by decide +kernel
theorem dL_law_265 : decode cL_law 265 = .ok (.aload_n 1, 1) := by decide +kernel
theorem dL_law_266 : decode cL_law 266 = .ok (.invokevirtual 28, 3) := by decide +kernel
theorem dL_law_269 : decode cL_law 269 = .ok (.aload_n 2, 1) := by decide +kernel
theorem dL_law_270 : decode cL_law 270 = .ok (.invokevirtual 32, 3) := by decide +kernel
theorem dL_law_273 : decode cL_law 273 = .ok (.if_icmp .eq 537, 3) := by decide +kernel
theorem dL_law_276 : decode cL_law 276 = .ok (.iconst 0, 1) := by decide +kernel
theorem dL_law_277 : decode cL_law 277 = .ok (.ireturn, 1) := by decide +kernel
theorem dL_law_278 : decode cL_law 278 = .ok (.aload_n 1, 1) := by decide +kernel
theorem dL_law_279 : decode cL_law 279 = .ok (.aload_n 0, 1) := by decide +kernel
theorem dL_law_280 : decode cL_law 280 = .ok (.iload_n 3, 1) := by decide +kernel
theorem dL_law_281 : decode cL_law 281 = .ok (.iconst 1, 1) := by decide +kernel
theorem dL_law_282 : decode cL_law 282 = .ok (.iadd, 1) := by decide +kernel
theorem dL_law_283 : decode cL_law 283 = .ok (.iaload, 1) := by decide +kernel
theorem dL_law_284 : decode cL_law 284 = .ok (.invokevirtual 33, 3) := by decide +kernel
theorem dL_law_287 : decode cL_law 287 = .ok (.aload_n 2, 1) := by decide +kernel
theorem dL_law_288 : decode cL_law 288 = .ok (.aload_n 0, 1) := by decide +kernel
theorem dL_law_289 : decode cL_law 289 = .ok (.iload_n 3, 1) := by decide +kernel
theorem dL_law_290 : decode cL_law 290 = .ok (.iconst 1, 1) := by decide +kernel
theorem dL_law_291 : decode cL_law 291 = .ok (.iadd, 1) := by decide +kernel
theorem dL_law_292 : decode cL_law 292 = .ok (.iaload, 1) := by decide +kernel
theorem dL_law_293 : decode cL_law 293 = .ok (.invokevirtual 36, 3) := by decide +kernel
theorem dL_law_296 : decode cL_law 296 = .ok (.if_icmp .eq 514, 3) := by decide +kernel
theorem dL_law_299 : decode cL_law 299 = .ok (.iconst 0, 1) := by decide +kernel
theorem dL_law_300 : decode cL_law 300 = .ok (.ireturn, 1) := by decide +kernel
theorem dL_law_301 : decode cL_law 301 = .ok (.aload_n 1, 1) := by decide +kernel
theorem dL_law_302 : decode cL_law 302 = .ok (.aload_n 0, 1) := by decide +kernel
theorem dL_law_303 : decode cL_law 303 = .ok (.iload_n 3, 1) := by decide +kernel
theorem dL_law_304 : decode cL_law 304 = .ok (.iconst 1, 1) := by decide +kernel
theorem dL_law_305 : decode cL_law 305 = .ok (.iadd, 1) := by decide +kernel
theorem dL_law_306 : decode cL_law 306 = .ok (.iaload, 1) := by decide +kernel
theorem dL_law_307 : decode cL_law 307 = .ok (.invokevirtual 37, 3) := by decide +kernel
theorem dL_law_310 : decode cL_law 310 = .ok (.aload_n 2, 1) := by decide +kernel
theorem dL_law_311 : decode cL_law 311 = .ok (.aload_n 0, 1) := by decide +kernel
theorem dL_law_312 : decode cL_law 312 = .ok (.iload_n 3, 1) := by decide +kernel
theorem dL_law_313 : decode cL_law 313 = .ok (.iconst 1, 1) := by decide +kernel
theorem dL_law_314 : decode cL_law 314 = .ok (.iadd, 1) := by decide +kernel
theorem dL_law_315 : decode cL_law 315 = .ok (.iaload, 1) := by decide +kernel
theorem dL_law_316 : decode cL_law 316 = .ok (.invokevirtual 40, 3) := by decide +kernel
theorem dL_law_319 : decode cL_law 319 = .ok (.if_icmp .eq 491, 3) := by decide +kernel
theorem dL_law_322 : decode cL_law 322 = .ok (.iconst 0, 1) := by decide +kernel
theorem dL_law_323 : decode cL_law 323 = .ok (.ireturn, 1) := by decide +kernel
theorem dL_law_324 : decode cL_law 324 = .ok (.aload_n 1, 1) := by decide +kernel
theorem dL_law_325 : decode cL_law 325 = .ok (.aload_n 0, 1) := by decide +kernel
theorem dL_law_326 : decode cL_law 326 = .ok (.iload_n 3, 1) := by decide +kernel
theorem dL_law_327 : decode cL_law 327 = .ok (.iconst 1, 1) := by decide +kernel
theorem dL_law_328 : decode cL_law 328 = .ok (.iadd, 1) := by decide +kernel
theorem dL_law_329 : decode cL_law 329 = .ok (.iaload, 1) := by decide +kernel
theorem dL_law_330 : decode cL_law 330 = .ok (.invokevirtual 41, 3) := by decide +kernel
theorem dL_law_333 : decode cL_law 333 = .ok (.aload_n 2, 1) := by decide +kernel
theorem dL_law_334 : decode cL_law 334 = .ok (.aload_n 0, 1) := by decide +kernel
theorem dL_law_335 : decode cL_law 335 = .ok (.iload_n 3, 1) := by decide +kernel
theorem dL_law_336 : decode cL_law 336 = .ok (.iconst 1, 1) := by decide +kernel
theorem dL_law_337 : decode cL_law 337 = .ok (.iadd, 1) := by decide +kernel
theorem dL_law_338 : decode cL_law 338 = .ok (.iaload, 1) := by decide +kernel
theorem dL_law_339 : decode cL_law 339 = .ok (.invokevirtual 44, 3) := by decide +kernel
theorem dL_law_342 : decode cL_law 342 = .ok (.if_icmp .eq 468, 3) := by decide +kernel
theorem dL_law_345 : decode cL_law 345 = .ok (.iconst 0, 1) := by decide +kernel
theorem dL_law_346 : decode cL_law 346 = .ok (.ireturn, 1) := by decide +kernel
theorem dL_law_347 : decode cL_law 347 = .ok (.aload_n 1, 1) := by decide +kernel
theorem dL_law_348 : decode cL_law 348 = .ok (.invokevirtual 45, 3) := by decide +kernel
theorem dL_law_351 : decode cL_law 351 = .ok (.aload_n 2, 1) := by decide +kernel
theorem dL_law_352 : decode cL_law 352 = .ok (.invokevirtual 48, 3) := by decide +kernel
theorem dL_law_355 : decode cL_law 355 = .ok (.if_icmp .eq 455, 3) := by decide +kernel
theorem dL_law_358 : decode cL_law 358 = .ok (.iconst 0, 1) := by decide +kernel
theorem dL_law_359 : decode cL_law 359 = .ok (.ireturn, 1) := by decide +kernel
theorem dL_law_360 : decode cL_law 360 = .ok (.aload_n 1, 1) := by decide +kernel
theorem dL_law_361 : decode cL_law 361 = .ok (.invokevirtual 49, 3) := by decide +kernel
theorem dL_law_364 : decode cL_law 364 = .ok (.aload_n 2, 1) := by decide +kernel
theorem dL_law_365 : decode cL_law 365 = .ok (.invokevirtual 52, 3) := by decide +kernel
theorem dL_law_368 : decode cL_law 368 = .ok (.if_icmp .eq 442, 3) := by decide +kernel
theorem dL_law_371 : decode cL_law 371 = .ok (.iconst 0, 1) := by decide +kernel
theorem dL_law_372 : decode cL_law 372 = .ok (.ireturn, 1) := by decide +kernel
theorem dL_law_373 : decode cL_law 373 = .ok (.aload_n 1, 1) := by decide +kernel
theorem dL_law_374 : decode cL_law 374 = .ok (.aload_n 0, 1) := by decide +kernel
theorem dL_law_375 : decode cL_law 375 = .ok (.iload_n 3, 1) := by decide +kernel
theorem dL_law_376 : decode cL_law 376 = .ok (.iconst 1, 1) := by decide +kernel
theorem dL_law_377 : decode cL_law 377 = .ok (.iadd, 1) := by decide +kernel
theorem dL_law_378 : decode cL_law 378 = .ok (.iaload, 1) := by decide +kernel
theorem dL_law_379 : decode cL_law 379 = .ok (.aload_n 0, 1) := by decide +kernel
theorem dL_law_380 : decode cL_law 380 = .ok (.iload_n 3, 1) := by decide +kernel
theorem dL_law_381 : decode cL_law 381 = .ok (.iconst 2, 1) := by decide +kernel
theorem dL_law_382 : decode cL_law 382 = .ok (.iadd, 1) := by decide +kernel
theorem dL_law_383 : decode cL_law 383 = .ok (.iaload, 1) := by decide +kernel
theorem dL_law_384 : decode cL_law 384 = .ok (.aload_n 0, 1) := by decide +kernel
theorem dL_law_385 : decode cL_law 385 = .ok (.iload_n 3, 1) := by decide +kernel
theorem dL_law_386 : decode cL_law 386 = .ok (.iconst 3, 1) := by decide +kernel
theorem dL_law_387 : decode cL_law 387 = .ok (.iadd, 1) := by decide +kernel
theorem dL_law_388 : decode cL_law 388 = .ok (.iaload, 1) := by decide +kernel
theorem dL_law_389 : decode cL_law 389 = .ok (.invokevirtual 53, 3) := by decide +kernel
theorem dL_law_392 : decode cL_law 392 = .ok (.aload_n 2, 1) := by decide +kernel
theorem dL_law_393 : decode cL_law 393 = .ok (.aload_n 0, 1) := by decide +kernel
theorem dL_law_394 : decode cL_law 394 = .ok (.iload_n 3, 1) := by decide +kernel
theorem dL_law_395 : decode cL_law 395 = .ok (.iconst 1, 1) := by decide +kernel
theorem dL_law_396 : decode cL_law 396 = .ok (.iadd, 1) := by decide +kernel
theorem dL_law_397 : decode cL_law 397 = .ok (.iaload, 1) := by decide +kernel
theorem dL_law_398 : decode cL_law 398 = .ok (.aload_n 0, 1) := by decide +kernel
theorem dL_law_399 : decode cL_law 399 = .ok (.iload_n 3, 1) := by decide +kernel
theorem dL_law_400 : decode cL_law 400 = .ok (.iconst 2, 1) := by decide +kernel
theorem dL_law_401 : decode cL_law 401 = .ok (.iadd, 1) := by decide +kernel
theorem dL_law_402 : decode cL_law 402 = .ok (.iaload, 1) := by decide +kernel
theorem dL_law_403 : decode cL_law 403 = .ok (.aload_n 0, 1) := by decide +kernel
theorem dL_law_404 : decode cL_law 404 = .ok (.iload_n 3, 1) := by decide +kernel
theorem dL_law_405 : decode cL_law 405 = .ok (.iconst 3, 1) := by decide +kernel
theorem dL_law_406 : decode cL_law 406 = .ok (.iadd, 1) := by decide +kernel
theorem dL_law_407 : decode cL_law 407 = .ok (.iaload, 1) := by decide +kernel
theorem dL_law_408 : decode cL_law 408 = .ok (.invokevirtual 57, 3) := by decide +kernel
theorem dL_law_411 : decode cL_law 411 = .ok (.if_icmp .eq 399, 3) := by decide +kernel
theorem dL_law_414 : decode cL_law 414 = .ok (.iconst 0, 1) := by decide +kernel
theorem dL_law_415 : decode cL_law 415 = .ok (.ireturn, 1) := by decide +kernel
theorem dL_law_416 : decode cL_law 416 = .ok (.aload_n 1, 1) := by decide +kernel
theorem dL_law_417 : decode cL_law 417 = .ok (.invokevirtual 58, 3) := by decide +kernel
theorem dL_law_420 : decode cL_law 420 = .ok (.aload_n 2, 1) := by decide +kernel
theorem dL_law_421 : decode cL_law 421 = .ok (.invokevirtual 61, 3) := by decide +kernel
theorem dL_law_424 : decode cL_law 424 = .ok (.if_icmp .eq 386, 3) := by decide +kernel
theorem dL_law_427 : decode cL_law 427 = .ok (.iconst 0, 1) := by decide +kernel
theorem dL_law_428 : decode cL_law 428 = .ok (.ireturn, 1) := by decide +kernel
theorem dL_law_429 : decode cL_law 429 = .ok (.aload_n 1, 1) := by decide +kernel
theorem dL_law_430 : decode cL_law 430 = .ok (.aload_n 0, 1) := by decide +kernel
theorem dL_law_431 : decode cL_law 431 = .ok (.iload_n 3, 1) := by decide +kernel
theorem dL_law_432 : decode cL_law 432 = .ok (.iconst 1, 1) := by decide +kernel
theorem dL_law_433 : decode cL_law 433 = .ok (.iadd, 1) := by decide +kernel
theorem dL_law_434 : decode cL_law 434 = .ok (.iaload, 1) := by decide +kernel
theorem dL_law_435 : decode cL_law 435 = .ok (.aload_n 0, 1) := by decide +kernel
theorem dL_law_436 : decode cL_law 436 = .ok (.iload_n 3, 1) := by decide +kernel
theorem dL_law_437 : decode cL_law 437 = .ok (.iconst 2, 1) := by decide +kernel
theorem dL_law_438 : decode cL_law 438 = .ok (.iadd, 1) := by decide +kernel
theorem dL_law_439 : decode cL_law 439 = .ok (.iaload, 1) := by decide +kernel
theorem dL_law_440 : decode cL_law 440 = .ok (.invokevirtual 62, 3) := by decide +kernel
theorem dL_law_443 : decode cL_law 443 = .ok (.aload_n 2, 1) := by decide +kernel
theorem dL_law_444 : decode cL_law 444 = .ok (.aload_n 0, 1) := by decide +kernel
theorem dL_law_445 : decode cL_law 445 = .ok (.iload_n 3, 1) := by decide +kernel
theorem dL_law_446 : decode cL_law 446 = .ok (.iconst 1, 1) := by decide +kernel
theorem dL_law_447 : decode cL_law 447 = .ok (.iadd, 1) := by decide +kernel
theorem dL_law_448 : decode cL_law 448 = .ok (.iaload, 1) := by decide +kernel
theorem dL_law_449 : decode cL_law 449 = .ok (.aload_n 0, 1) := by decide +kernel
theorem dL_law_450 : decode cL_law 450 = .ok (.iload_n 3, 1) := by decide +kernel
theorem dL_law_451 : decode cL_law 451 = .ok (.iconst 2, 1) := by decide +kernel
theorem dL_law_452 : decode cL_law 452 = .ok (.iadd, 1) := by decide +kernel
theorem dL_law_453 : decode cL_law 453 = .ok (.iaload, 1) := by decide +kernel
theorem dL_law_454 : decode cL_law 454 = .ok (.invokevirtual 66, 3) := by decide +kernel
theorem dL_law_457 : decode cL_law 457 = .ok (.lcmp, 1) := by decide +kernel
theorem dL_law_458 : decode cL_law 458 = .ok (.ifCond .eq 352, 3) := by decide +kernel
theorem dL_law_461 : decode cL_law 461 = .ok (.iconst 0, 1) := by decide +kernel
theorem dL_law_462 : decode cL_law 462 = .ok (.ireturn, 1) := by decide +kernel
theorem dL_law_463 : decode cL_law 463 = .ok (.aload_n 1, 1) := by decide +kernel
theorem dL_law_464 : decode cL_law 464 = .ok (.invokevirtual 67, 3) := by decide +kernel
theorem dL_law_467 : decode cL_law 467 = .ok (.aload_n 2, 1) := by decide +kernel
theorem dL_law_468 : decode cL_law 468 = .ok (.invokevirtual 70, 3) := by decide +kernel
theorem dL_law_471 : decode cL_law 471 = .ok (.if_icmp .eq 339, 3) := by decide +kernel
theorem dL_law_474 : decode cL_law 474 = .ok (.iconst 0, 1) := by decide +kernel
theorem dL_law_475 : decode cL_law 475 = .ok (.ireturn, 1) := by decide +kernel
theorem dL_law_476 : decode cL_law 476 = .ok (.aload_n 1, 1) := by decide +kernel
theorem dL_law_477 : decode cL_law 477 = .ok (.invokevirtual 71, 3) := by decide +kernel
theorem dL_law_480 : decode cL_law 480 = .ok (.aload_n 2, 1) := by decide +kernel
theorem dL_law_481 : decode cL_law 481 = .ok (.invokevirtual 74, 3) := by decide +kernel
theorem dL_law_484 : decode cL_law 484 = .ok (.if_icmp .eq 326, 3) := by decide +kernel
theorem dL_law_487 : decode cL_law 487 = .ok (.iconst 0, 1) := by decide +kernel
theorem dL_law_488 : decode cL_law 488 = .ok (.ireturn, 1) := by decide +kernel
theorem dL_law_489 : decode cL_law 489 = .ok (.aload_n 1, 1) := by decide +kernel
theorem dL_law_490 : decode cL_law 490 = .ok (.invokevirtual 75, 3) := by decide +kernel
theorem dL_law_493 : decode cL_law 493 = .ok (.aload_n 2, 1) := by decide +kernel
theorem dL_law_494 : decode cL_law 494 = .ok (.invokevirtual 78, 3) := by decide +kernel
theorem dL_law_497 : decode cL_law 497 = .ok (.if_icmp .eq 313, 3) := by decide +kernel
theorem dL_law_500 : decode cL_law 500 = .ok (.iconst 0, 1) := by decide +kernel
theorem dL_law_501 : decode cL_law 501 = .ok (.ireturn, 1) := by decide +kernel
theorem dL_law_502 : decode cL_law 502 = .ok (.aload_n 1, 1) := by decide +kernel
theorem dL_law_503 : decode cL_law 503 = .ok (.aload_n 0, 1) := by decide +kernel
theorem dL_law_504 : decode cL_law 504 = .ok (.iload_n 3, 1) := by decide +kernel
theorem dL_law_505 : decode cL_law 505 = .ok (.iconst 1, 1) := by decide +kernel
theorem dL_law_506 : decode cL_law 506 = .ok (.iadd, 1) := by decide +kernel
theorem dL_law_507 : decode cL_law 507 = .ok (.iaload, 1) := by decide +kernel
theorem dL_law_508 : decode cL_law 508 = .ok (.aload_n 0, 1) := by decide +kernel
theorem dL_law_509 : decode cL_law 509 = .ok (.iload_n 3, 1) := by decide +kernel
theorem dL_law_510 : decode cL_law 510 = .ok (.iconst 2, 1) := by decide +kernel
theorem dL_law_511 : decode cL_law 511 = .ok (.iadd, 1) := by decide +kernel
theorem dL_law_512 : decode cL_law 512 = .ok (.iaload, 1) := by decide +kernel
theorem dL_law_513 : decode cL_law 513 = .ok (.invokevirtual 79, 3) := by decide +kernel
theorem dL_law_516 : decode cL_law 516 = .ok (.aload_n 2, 1) := by decide +kernel
theorem dL_law_517 : decode cL_law 517 = .ok (.aload_n 0, 1) := by decide +kernel
theorem dL_law_518 : decode cL_law 518 = .ok (.iload_n 3, 1) := by decide +kernel
theorem dL_law_519 : decode cL_law 519 = .ok (.iconst 1, 1) := by decide +kernel
theorem dL_law_520 : decode cL_law 520 = .ok (.iadd, 1) := by decide +kernel
theorem dL_law_521 : decode cL_law 521 = .ok (.iaload, 1) := by decide +kernel
theorem dL_law_522 : decode cL_law 522 = .ok (.aload_n 0, 1) := by decide +kernel
theorem dL_law_523 : decode cL_law 523 = .ok (.iload_n 3, 1) := by decide +kernel
theorem dL_law_524 : decode cL_law 524 = .ok (.iconst 2, 1) := by decide +kernel
theorem dL_law_525 : decode cL_law 525 = .ok (.iadd, 1) := by decide +kernel
theorem dL_law_526 : decode cL_law 526 = .ok (.iaload, 1) := by decide +kernel
theorem dL_law_527 : decode cL_law 527 = .ok (.invokevirtual 82, 3) := by decide +kernel
theorem dL_law_530 : decode cL_law 530 = .ok (.lcmp, 1) := by decide +kernel
theorem dL_law_531 : decode cL_law 531 = .ok (.ifCond .eq 279, 3) := by decide +kernel
theorem dL_law_534 : decode cL_law 534 = .ok (.iconst 0, 1) := by decide +kernel
theorem dL_law_535 : decode cL_law 535 = .ok (.ireturn, 1) := by decide +kernel
theorem dL_law_536 : decode cL_law 536 = .ok (.aload_n 1, 1) := by decide +kernel
theorem dL_law_537 : decode cL_law 537 = .ok (.aload_n 0, 1) := by decide +kernel
theorem dL_law_538 : decode cL_law 538 = .ok (.iload_n 3, 1) := by decide +kernel
theorem dL_law_539 : decode cL_law 539 = .ok (.iconst 1, 1) := by decide +kernel
theorem dL_law_540 : decode cL_law 540 = .ok (.iadd, 1) := by decide +kernel
theorem dL_law_541 : decode cL_law 541 = .ok (.iaload, 1) := by decide +kernel
theorem dL_law_542 : decode cL_law 542 = .ok (.invokevirtual 83, 3) := by decide +kernel
theorem dL_law_545 : decode cL_law 545 = .ok (.aload_n 2, 1) := by decide +kernel
theorem dL_law_546 : decode cL_law 546 = .ok (.aload_n 0, 1) := by decide +kernel
theorem dL_law_547 : decode cL_law 547 = .ok (.iload_n 3, 1) := by decide +kernel
theorem dL_law_548 : decode cL_law 548 = .ok (.iconst 1, 1) := by decide +kernel
theorem dL_law_549 : decode cL_law 549 = .ok (.iadd, 1) := by decide +kernel
theorem dL_law_550 : decode cL_law 550 = .ok (.iaload, 1) := by decide +kernel
theorem dL_law_551 : decode cL_law 551 = .ok (.invokevirtual 86, 3) := by decide +kernel
theorem dL_law_554 : decode cL_law 554 = .ok (.if_icmp .eq 256, 3) := by decide +kernel
theorem dL_law_557 : decode cL_law 557 = .ok (.iconst 0, 1) := by decide +kernel
theorem dL_law_558 : decode cL_law 558 = .ok (.ireturn, 1) := by decide +kernel
theorem dL_law_559 : decode cL_law 559 = .ok (.aload_n 1, 1) := by decide +kernel
theorem dL_law_560 : decode cL_law 560 = .ok (.invokevirtual 87, 3) := by decide +kernel
theorem dL_law_563 : decode cL_law 563 = .ok (.f2d, 1) := by decide +kernel
theorem dL_law_564 : decode cL_law 564 = .ok (.dstore 4, 2) := by decide +kernel
theorem dL_law_566 : decode cL_law 566 = .ok (.aload_n 2, 1) := by decide +kernel
theorem dL_law_567 : decode cL_law 567 = .ok (.invokevirtual 91, 3) := by decide +kernel
theorem dL_law_570 : decode cL_law 570 = .ok (.f2d, 1) := by decide +kernel
theorem dL_law_571 : decode cL_law 571 = .ok (.dstore 6, 2) := by decide +kernel
theorem dL_law_573 : decode cL_law 573 = .ok (.dload 4, 2) := by decide +kernel
theorem dL_law_575 : decode cL_law 575 = .ok (.dload 6, 2) := by decide +kernel
theorem dL_law_577 : decode cL_law 577 = .ok (.dcmp .l, 1) := by decide +kernel
theorem dL_law_578 : decode cL_law 578 = .ok (.ifCond .eq 21, 3) := by decide +kernel
theorem dL_law_581 : decode cL_law 581 = .ok (.dload 4, 2) := by decide +kernel
theorem dL_law_583 : decode cL_law 583 = .ok (.dload 4, 2) := by decide +kernel
theorem dL_law_585 : decode cL_law 585 = .ok (.dcmp .l, 1) := by decide +kernel
theorem dL_law_586 : decode cL_law 586 = .ok (.ifCond .eq 11, 3) := by decide +kernel
theorem dL_law_589 : decode cL_law 589 = .ok (.dload 6, 2) := by decide +kernel
theorem dL_law_591 : decode cL_law 591 = .ok (.dload 6, 2) := by decide +kernel
theorem dL_law_593 : decode cL_law 593 = .ok (.dcmp .l, 1) := by decide +kernel
theorem dL_law_594 : decode cL_law 594 = .ok (.ifCond .ne 5, 3) := by decide +kernel
theorem dL_law_597 : decode cL_law 597 = .ok (.iconst 0, 1) := by decide +kernel
theorem dL_law_598 : decode cL_law 598 = .ok (.ireturn, 1) := by decide +kernel
theorem dL_law_599 : decode cL_law 599 = .ok (.goto 211, 3) := by decide +kernel
theorem dL_law_602 : decode cL_law 602 = .ok (.aload_n 1, 1) := by decide +kernel
theorem dL_law_603 : decode cL_law 603 = .ok (.aload_n 0, 1) := by decide +kernel
theorem dL_law_604 : decode cL_law 604 = .ok (.iload_n 3, 1) := by decide +kernel
theorem dL_law_605 : decode cL_law 605 = .ok (.iconst 1, 1) := by decide +kernel
theorem dL_law_606 : decode cL_law 606 = .ok (.iadd, 1) := by decide +kernel
theorem dL_law_607 : decode cL_law 607 = .ok (.iaload, 1) := by decide +kernel
theorem dL_law_608 : decode cL_law 608 = .ok (.invokevirtual 92, 3) := by decide +kernel
theorem dL_law_611 : decode cL_law 611 = .ok (.aload_n 2, 1) := by decide +kernel
theorem dL_law_612 : decode cL_law 612 = .ok (.aload_n 0, 1) := by decide +kernel
theorem dL_law_613 : decode cL_law 613 = .ok (.iload_n 3, 1) := by decide +kernel
theorem dL_law_614 : decode cL_law 614 = .ok (.iconst 1, 1) := by decide +kernel
theorem dL_law_615 : decode cL_law 615 = .ok (.iadd, 1) := by decide +kernel
theorem dL_law_616 : decode cL_law 616 = .ok (.iaload, 1) := by decide +kernel
theorem dL_law_617 : decode cL_law 617 = .ok (.invokevirtual 95, 3) := by decide +kernel
theorem dL_law_620 : decode cL_law 620 = .ok (.if_icmp .eq 190, 3) := by decide +kernel
theorem dL_law_623 : decode cL_law 623 = .ok (.iconst 0, 1) := by decide +kernel
theorem dL_law_624 : decode cL_law 624 = .ok (.ireturn, 1) := by decide +kernel
theorem dL_law_625 : decode cL_law 625 = .ok (.aload_n 1, 1) := by decide +kernel
theorem dL_law_626 : decode cL_law 626 = .ok (.aload_n 0, 1) := by decide +kernel
theorem dL_law_627 : decode cL_law 627 = .ok (.iload_n 3, 1) := by decide +kernel
theorem dL_law_628 : decode cL_law 628 = .ok (.iconst 1, 1) := by decide +kernel
theorem dL_law_629 : decode cL_law 629 = .ok (.iadd, 1) := by decide +kernel
theorem dL_law_630 : decode cL_law 630 = .ok (.iaload, 1) := by decide +kernel
theorem dL_law_631 : decode cL_law 631 = .ok (.invokevirtual 96, 3) := by decide +kernel
theorem dL_law_634 : decode cL_law 634 = .ok (.aload_n 2, 1) := by decide +kernel
theorem dL_law_635 : decode cL_law 635 = .ok (.aload_n 0, 1) := by decide +kernel
theorem dL_law_636 : decode cL_law 636 = .ok (.iload_n 3, 1) := by decide +kernel
theorem dL_law_637 : decode cL_law 637 = .ok (.iconst 1, 1) := by decide +kernel
theorem dL_law_638 : decode cL_law 638 = .ok (.iadd, 1) := by decide +kernel
theorem dL_law_639 : decode cL_law 639 = .ok (.iaload, 1) := by decide +kernel
theorem dL_law_640 : decode cL_law 640 = .ok (.invokevirtual 99, 3) := by decide +kernel
theorem dL_law_643 : decode cL_law 643 = .ok (.if_icmp .eq 167, 3) := by decide +kernel
theorem dL_law_646 : decode cL_law 646 = .ok (.iconst 0, 1) := by decide +kernel
theorem dL_law_647 : decode cL_law 647 = .ok (.ireturn, 1) := by decide +kernel
theorem dL_law_648 : decode cL_law 648 = .ok (.aload_n 1, 1) := by decide +kernel
theorem dL_law_649 : decode cL_law 649 = .ok (.aload_n 0, 1) := by decide +kernel
theorem dL_law_650 : decode cL_law 650 = .ok (.iload_n 3, 1) := by decide +kernel
theorem dL_law_651 : decode cL_law 651 = .ok (.iconst 1, 1) := by decide +kernel
theorem dL_law_652 : decode cL_law 652 = .ok (.iadd, 1) := by decide +kernel
theorem dL_law_653 : decode cL_law 653 = .ok (.iaload, 1) := by decide +kernel
theorem dL_law_654 : decode cL_law 654 = .ok (.invokevirtual 100, 3) := by decide +kernel
theorem dL_law_657 : decode cL_law 657 = .ok (.aload_n 2, 1) := by decide +kernel
theorem dL_law_658 : decode cL_law 658 = .ok (.aload_n 0, 1) := by decide +kernel
theorem dL_law_659 : decode cL_law 659 = .ok (.iload_n 3, 1) := by decide +kernel
theorem dL_law_660 : decode cL_law 660 = .ok (.iconst 1, 1) := by decide +kernel
theorem dL_law_661 : decode cL_law 661 = .ok (.iadd, 1) := by decide +kernel
theorem dL_law_662 : decode cL_law 662 = .ok (.iaload, 1) := by decide +kernel
theorem dL_law_663 : decode cL_law 663 = .ok (.invokevirtual 103, 3) := by decide +kernel
theorem dL_law_666 : decode cL_law 666 = .ok (.if_icmp .eq 144, 3) := by decide +kernel
theorem dL_law_669 : decode cL_law 669 = .ok (.iconst 0, 1) := by decide +kernel
theorem dL_law_670 : decode cL_law 670 = .ok (.ireturn, 1) := by decide +kernel
theorem dL_law_671 : decode cL_law 671 = .ok (.aload_n 1, 1) := by decide +kernel
theorem dL_law_672 : decode cL_law 672 = .ok (.aload_n 0, 1) := by decide +kernel
theorem dL_law_673 : decode cL_law 673 = .ok (.iload_n 3, 1) := by decide +kernel
theorem dL_law_674 : decode cL_law 674 = .ok (.iconst 1, 1) := by decide +kernel
theorem dL_law_675 : decode cL_law 675 = .ok (.iadd, 1) := by decide +kernel
theorem dL_law_676 : decode cL_law 676 = .ok (.iaload, 1) := by decide +kernel
theorem dL_law_677 : decode cL_law 677 = .ok (.invokevirtual 104, 3) := by decide +kernel
theorem dL_law_680 : decode cL_law 680 = .ok (.aload_n 2, 1) := by decide +kernel
theorem dL_law_681 : decode cL_law 681 = .ok (.aload_n 0, 1) := by decide +kernel
theorem dL_law_682 : decode cL_law 682 = .ok (.iload_n 3, 1) := by decide +kernel
theorem dL_law_683 : decode cL_law 683 = .ok (.iconst 1, 1) := by decide +kernel
theorem dL_law_684 : decode cL_law 684 = .ok (.iadd, 1) := by decide +kernel
theorem dL_law_685 : decode cL_law 685 = .ok (.iaload, 1) := by decide +kernel
theorem dL_law_686 : decode cL_law 686 = .ok (.invokevirtual 107, 3) := by decide +kernel
theorem dL_law_689 : decode cL_law 689 = .ok (.if_icmp .eq 121, 3) := by decide +kernel
theorem dL_law_692 : decode cL_law 692 = .ok (.iconst 0, 1) := by decide +kernel
theorem dL_law_693 : decode cL_law 693 = .ok (.ireturn, 1) := by decide +kernel
theorem dL_law_694 : decode cL_law 694 = .ok (.aload_n 1, 1) := by decide +kernel
theorem dL_law_695 : decode cL_law 695 = .ok (.aload_n 0, 1) := by decide +kernel
theorem dL_law_696 : decode cL_law 696 = .ok (.iload_n 3, 1) := by decide +kernel
theorem dL_law_697 : decode cL_law 697 = .ok (.iconst 1, 1) := by decide +kernel
theorem dL_law_698 : decode cL_law 698 = .ok (.iadd, 1) := by decide +kernel
theorem dL_law_699 : decode cL_law 699 = .ok (.iaload, 1) := by decide +kernel
theorem dL_law_700 : decode cL_law 700 = .ok (.invokevirtual 108, 3) := by decide +kernel
theorem dL_law_703 : decode cL_law 703 = .ok (.aload_n 2, 1) := by decide +kernel
theorem dL_law_704 : decode cL_law 704 = .ok (.aload_n 0, 1) := by decide +kernel
theorem dL_law_705 : decode cL_law 705 = .ok (.iload_n 3, 1) := by decide +kernel
theorem dL_law_706 : decode cL_law 706 = .ok (.iconst 1, 1) := by decide +kernel
theorem dL_law_707 : decode cL_law 707 = .ok (.iadd, 1) := by decide +kernel
theorem dL_law_708 : decode cL_law 708 = .ok (.iaload, 1) := by decide +kernel
theorem dL_law_709 : decode cL_law 709 = .ok (.invokevirtual 111, 3) := by decide +kernel
theorem dL_law_712 : decode cL_law 712 = .ok (.if_icmp .eq 98, 3) := by decide +kernel
theorem dL_law_715 : decode cL_law 715 = .ok (.iconst 0, 1) := by decide +kernel
theorem dL_law_716 : decode cL_law 716 = .ok (.ireturn, 1) := by decide +kernel
theorem dL_law_717 : decode cL_law 717 = .ok (.aload_n 1, 1) := by decide +kernel
theorem dL_law_718 : decode cL_law 718 = .ok (.aload_n 0, 1) := by decide +kernel
theorem dL_law_719 : decode cL_law 719 = .ok (.iload_n 3, 1) := by decide +kernel
theorem dL_law_720 : decode cL_law 720 = .ok (.iconst 1, 1) := by decide +kernel
theorem dL_law_721 : decode cL_law 721 = .ok (.iadd, 1) := by decide +kernel
theorem dL_law_722 : decode cL_law 722 = .ok (.iaload, 1) := by decide +kernel
theorem dL_law_723 : decode cL_law 723 = .ok (.aload_n 0, 1) := by decide +kernel
theorem dL_law_724 : decode cL_law 724 = .ok (.iload_n 3, 1) := by decide +kernel
theorem dL_law_725 : decode cL_law 725 = .ok (.iconst 2, 1) := by decide +kernel
theorem dL_law_726 : decode cL_law 726 = .ok (.iadd, 1) := by decide +kernel
theorem dL_law_727 : decode cL_law 727 = .ok (.iaload, 1) := by decide +kernel
theorem dL_law_728 : decode cL_law 728 = .ok (.aload_n 0, 1) := by decide +kernel
theorem dL_law_729 : decode cL_law 729 = .ok (.iload_n 3, 1) := by decide +kernel
theorem dL_law_730 : decode cL_law 730 = .ok (.iconst 3, 1) := by decide +kernel
theorem dL_law_731 : decode cL_law 731 = .ok (.iadd, 1) := by decide +kernel
theorem dL_law_732 : decode cL_law 732 = .ok (.iaload, 1) := by decide +kernel
theorem dL_law_733 : decode cL_law 733 = .ok (.invokevirtual 112, 3) := by decide +kernel
theorem dL_law_736 : decode cL_law 736 = .ok (.aload_n 2, 1) := by decide +kernel
theorem dL_law_737 : decode cL_law 737 = .ok (.aload_n 0, 1) := by decide +kernel
theorem dL_law_738 : decode cL_law 738 = .ok (.iload_n 3, 1) := by decide +kernel
theorem dL_law_739 : decode cL_law 739 = .ok (.iconst 1, 1) := by decide +kernel
theorem dL_law_740 : decode cL_law 740 = .ok (.iadd, 1) := by decide +kernel
theorem dL_law_741 : decode cL_law 741 = .ok (.iaload, 1) := by decide +kernel
theorem dL_law_742 : decode cL_law 742 = .ok (.aload_n 0, 1) := by decide +kernel
theorem dL_law_743 : decode cL_law 743 = .ok (.iload_n 3, 1) := by decide +kernel
theorem dL_law_744 : decode cL_law 744 = .ok (.iconst 2, 1) := by decide +kernel
theorem dL_law_745 : decode cL_law 745 = .ok (.iadd, 1) := by decide +kernel
theorem dL_law_746 : decode cL_law 746 = .ok (.iaload, 1) := by decide +kernel
theorem dL_law_747 : decode cL_law 747 = .ok (.aload_n 0, 1) := by decide +kernel
theorem dL_law_748 : decode cL_law 748 = .ok (.iload_n 3, 1) := by decide +kernel
theorem dL_law_749 : decode cL_law 749 = .ok (.iconst 3, 1) := by decide +kernel
theorem dL_law_750 : decode cL_law 750 = .ok (.iadd, 1) := by decide +kernel
theorem dL_law_751 : decode cL_law 751 = .ok (.iaload, 1) := by decide +kernel
theorem dL_law_752 : decode cL_law 752 = .ok (.invokevirtual 115, 3) := by decide +kernel
theorem dL_law_755 : decode cL_law 755 = .ok (.if_icmp .eq 55, 3) := by decide +kernel
theorem dL_law_758 : decode cL_law 758 = .ok (.iconst 0, 1) := by decide +kernel
theorem dL_law_759 : decode cL_law 759 = .ok (.ireturn, 1) := by decide +kernel
theorem dL_law_760 : decode cL_law 760 = .ok (.aload_n 1, 1) := by decide +kernel
theorem dL_law_761 : decode cL_law 761 = .ok (.aload_n 0, 1) := by decide +kernel
theorem dL_law_762 : decode cL_law 762 = .ok (.iload_n 3, 1) := by decide +kernel
theorem dL_law_763 : decode cL_law 763 = .ok (.iconst 1, 1) := by decide +kernel
theorem dL_law_764 : decode cL_law 764 = .ok (.iadd, 1) := by decide +kernel
theorem dL_law_765 : decode cL_law 765 = .ok (.iaload, 1) := by decide +kernel
theorem dL_law_766 : decode cL_law 766 = .ok (.invokevirtual 116, 3) := by decide +kernel
theorem dL_law_769 : decode cL_law 769 = .ok (.aload_n 2, 1) := by decide +kernel
theorem dL_law_770 : decode cL_law 770 = .ok (.aload_n 0, 1) := by decide +kernel
theorem dL_law_771 : decode cL_law 771 = .ok (.iload_n 3, 1) := by decide +kernel
theorem dL_law_772 : decode cL_law 772 = .ok (.iconst 1, 1) := by decide +kernel
theorem dL_law_773 : decode cL_law 773 = .ok (.iadd, 1) := by decide +kernel
theorem dL_law_774 : decode cL_law 774 = .ok (.iaload, 1) := by decide +kernel
theorem dL_law_775 : decode cL_law 775 = .ok (.invokevirtual 119, 3) := by decide +kernel
theorem dL_law_778 : decode cL_law 778 = .ok (.if_icmp .eq 32, 3) := by decide +kernel
theorem dL_law_781 : decode cL_law 781 = .ok (.iconst 0, 1) := by decide +kernel
theorem dL_law_782 : decode cL_law 782 = .ok (.ireturn, 1) := by decide +kernel
theorem dL_law_783 : decode cL_law 783 = .ok (.aload_n 1, 1) := by decide +kernel
theorem dL_law_784 : decode cL_law 784 = .ok (.invokevirtual 120, 3) := by decide +kernel
theorem dL_law_787 : decode cL_law 787 = .ok (.aload_n 2, 1) := by decide +kernel
theorem dL_law_788 : decode cL_law 788 = .ok (.invokevirtual 123, 3) := by decide +kernel
theorem dL_law_791 : decode cL_law 791 = .ok (.if_icmp .eq 19, 3) := by decide +kernel
theorem dL_law_794 : decode cL_law 794 = .ok (.iconst 0, 1) := by decide +kernel
theorem dL_law_795 : decode cL_law 795 = .ok (.ireturn, 1) := by decide +kernel
theorem dL_law_796 : decode cL_law 796 = .ok (.aload_n 1, 1) := by decide +kernel
theorem dL_law_797 : decode cL_law 797 = .ok (.invokevirtual 124, 3) := by decide +kernel
theorem dL_law_800 : decode cL_law 800 = .ok (.aload_n 2, 1) := by decide +kernel
theorem dL_law_801 : decode cL_law 801 = .ok (.invokevirtual 128, 3) := by decide +kernel
theorem dL_law_804 : decode cL_law 804 = .ok (.lcmp, 1) := by decide +kernel
theorem dL_law_805 : decode cL_law 805 = .ok (.ifCond .eq 5, 3) := by decide +kernel
theorem dL_law_808 : decode cL_law 808 = .ok (.iconst 0, 1) := by decide +kernel
theorem dL_law_809 : decode cL_law 809 = .ok (.ireturn, 1) := by decide +kernel
theorem dL_law_810 : decode cL_law 810 = .ok (.iinc 3 5, 3) := by decide +kernel
theorem dL_law_813 : decode cL_law 813 = .ok (.goto (-795), 3) := by decide +kernel
theorem dL_law_816 : decode cL_law 816 = .ok (.iconst 1, 1) := by decide +kernel
theorem dL_law_817 : decode cL_law 817 = .ok (.ireturn, 1) := by decide +kernel
abbrev vwCl : List vw_C := [(RX1, TX1, 1), (RX2, TX2, 2), (RX3, TX3, 5), (RX4, TX4, 2), (RX5, TX5, 2), (RX6, TX6, 2), (RX7, TX7, 6), (RX8, TX8, 6), (RX9, TX9, 6), (RX10, TX10, 3), (RX11, TX11, 4), (RX12, TX12, 27)]
end
section
theorem zz1 : ∀ q ∈ ([(0, .ldc2_w 225, 3), (3, .aload_n 0, 1), (4, .getfield 7, 3), (7, .iconst 0, 1), (8, .iaload, 1), (9, .i2l, 1), (10, .ladd, 1), (11, .lstore_n 1, 1), (12, .iconst 0, 1), (13, .istore_n 3, 1), (14, .iload_n 3, 1), (15, .iconst 4, 1), (16, .aload_n 0, 1), (17, .getfield 7, 3), (20, .iconst 0, 1), (21, .iaload, 1), (22, .imul, 1), (23, .if_icmp .ge 25, 3), (26, .ldc2_w 227, 3), (29, .lload_n 1, 1), (30, .lmul, 1), (31, .aload_n 0, 1), (32, .getfield 7, 3), (35, .iconst 4, 1), (36, .iload_n 3, 1), (37, .iadd, 1), (38, .iaload, 1), (39, .i2l, 1), (40, .ladd, 1), (41, .lstore_n 1, 1), (42, .iinc 3 1, 3), (45, .goto (-31), 3), (48, .ldc2_w 227, 3), (51, .ldc2_w 227, 3), (54, .ldc2_w 227, 3), (57, .ldc2_w 227, 3), (60, .ldc2_w 227, 3), (63, .lload_n 1, 1), (64, .lmul, 1), (65, .aload_n 0, 1), (66, .getfield 7, 3), (69, .iconst 1, 1), (70, .iaload, 1), (71, .i2l, 1), (72, .ladd, 1), (73, .lmul, 1), (74, .aload_n 0, 1), (75, .getfield 7, 3), (78, .iconst 2, 1), (79, .iaload, 1), (80, .i2l, 1), (81, .ladd, 1), (82, .lmul, 1), (83, .aload_n 0, 1), (84, .getfield 172, 3), (87, .i2l, 1), (88, .ladd, 1), (89, .lmul, 1), (90, .aload_n 0, 1), (91, .getfield 169, 3), (94, .i2l, 1), (95, .ladd, 1), (96, .lmul, 1), (97, .aload_n 0, 1), (98, .invokevirtual 209, 3), (101, .i2l, 1), (102, .ladd, 1), (103, .lstore_n 1, 1), (104, .iconst 0, 1), (105, .istore_n 3, 1), (106, .iload_n 3, 1), (107, .iconst 5, 1), (108, .aload_n 0, 1), (109, .getfield 172, 3), (112, .imul, 1), (113, .if_icmp .ge 22, 3), (116, .ldc2_w 227, 3), (119, .lload_n 1, 1), (120, .lmul, 1), (121, .aload_n 0, 1), (122, .getfield 42, 3), (125, .iload_n 3, 1), (126, .laload, 1), (127, .ladd, 1), (128, .lstore_n 1, 1), (129, .iinc 3 1, 3), (132, .goto (-26), 3), (135, .iconst 0, 1), (136, .istore_n 3, 1), (137, .iload_n 3, 1), (138, .bipush 12, 2), (140, .if_icmp .ge 38, 3), (143, .iconst 0, 1), (144, .istore 4, 2), (146, .iload 4, 2), (148, .iconst 4, 1), (149, .if_icmp .ge 23, 3), (152, .ldc2_w 227, 3), (155, .lload_n 1, 1), (156, .lmul, 1), (157, .aload_n 0, 1), (158, .iload_n 3, 1), (159, .iload 4, 2), (161, .invokevirtual 215, 3), (164, .ladd, 1), (165, .lstore_n 1, 1), (166, .iinc 4 1, 3), (169, .goto (-23), 3), (172, .iinc 3 1, 3), (175, .goto (-38), 3), (178, .lload_n 1, 1), (179, .lreturn, 1)] : List (Nat × Instr × Nat)), decode cX12_fingerprint q.1 = .ok q.2 := by decide +kernel
end
