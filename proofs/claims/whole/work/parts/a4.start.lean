/-! THE START -/
abbrev nrw : Cond := Jvm.Cond.and given_1 narrow_1
def stW (r : String × Nat × String × List Nat) : List Cond := Cond.exactly (.string r.1 r.2.1) "java/lang/String" :: Cond.eq (.field (.string r.1 r.2.1) "java/lang/String" "coder" "B") (.int 0) :: Cond.arrayOf (.field (.string r.1 r.2.1) "java/lang/String" "value" "[B") .byte :: Cond.eq (.length (.field (.string r.1 r.2.1) "java/lang/String" "value" "[B")) (.int (Int32.ofNat r.2.2.2.length)) :: (List.range r.2.2.2.length).map (fun j => Cond.eq (.elem (.field (.string r.1 r.2.1) "java/lang/String" "value" "[B") (.int (Int32.ofNat j))) (.int (nI (r.2.2.2.getD j 0))))
theorem mem_ps {F L : List Cond} {ps : List Nat} (h : ps.map (fun i => F[i]?) = L.map some) : ∀ w ∈ L, w ∈ F := by
  intro w hw
  have h1 : some w ∈ ps.map (fun i => F[i]?) := by
    rw [h]
    exact List.mem_map.mpr ⟨w, hw, rfl⟩
  obtain ⟨i, -, hi⟩ := List.mem_map.mp h1
  exact List.mem_of_getElem? hi
theorem st_0 : ∀ w ∈ stW (RX9, 63, "1 to 8 octets can be fed", tx0), w ∈ flatC nrw := mem_ps (ps := [35, 36, 37, 38, 39, 40, 41, 42, 43, 44, 45, 46, 47, 48, 49, 50, 51, 52, 53, 54, 55, 56, 57, 58, 59, 60, 61, 62]) (by decide +kernel)
theorem sr_0 : Cond.stringRef RX9 63 "1 to 8 octets can be fed" ∈ lw_tbl := mem_at (j := 740) (by decide +kernel)
theorem st_1 : ∀ w ∈ stW (RX9, 71, "the tape would be too long", tx1), w ∈ flatC nrw := mem_ps (ps := [63, 64, 65, 66, 67, 68, 69, 70, 71, 72, 73, 74, 75, 76, 77, 78, 79, 80, 81, 82, 83, 84, 85, 86, 87, 88, 89, 90, 91, 92]) (by decide +kernel)
theorem sr_1 : Cond.stringRef RX9 71 "the tape would be too long" ∈ lw_tbl := mem_at (j := 767) (by decide +kernel)
theorem st_2 : ∀ w ∈ stW (RX9, 273, "no such table", tx2), w ∈ flatC nrw := mem_ps (ps := [93, 94, 95, 96, 97, 98, 99, 100, 101, 102, 103, 104, 105, 106, 107, 108, 109]) (by decide +kernel)
theorem sr_2 : Cond.stringRef RX9 273 "no such table" ∈ lw_tbl := mem_at (j := 793) (by decide +kernel)
theorem st_3 : ∀ w ∈ stW (RX8, 89, "##fileformat=VCFv4.3", tx3), w ∈ flatC nrw := mem_ps (ps := [110, 111, 112, 113, 114, 115, 116, 117, 118, 119, 120, 121, 122, 123, 124, 125, 126, 127, 128, 129, 130, 131, 132, 133]) (by decide +kernel)
theorem sr_3 : Cond.stringRef RX8 89 "##fileformat=VCFv4.3" ∈ lw_tbl := mem_at (j := 861) (by decide +kernel)
theorem st_4 : ∀ w ∈ stW (RX8, 95, "##", tx4), w ∈ flatC nrw := mem_ps (ps := [134, 135, 136, 137, 138, 139]) (by decide +kernel)
theorem sr_4 : Cond.stringRef RX8 95 "##" ∈ lw_tbl := mem_at (j := 922) (by decide +kernel)
theorem st_5 : ∀ w ∈ stW (RX8, 108, "#CHROM\tPOS\tID\tREF\tALT\tQUAL\tFILTER\tINFO", tx5), w ∈ flatC nrw := mem_ps (ps := [140, 141, 142, 143, 144, 145, 146, 147, 148, 149, 150, 151, 152, 153, 154, 155, 156, 157, 158, 159, 160, 161, 162, 163, 164, 165, 166, 167, 168, 169, 170, 171, 172, 173, 174, 175, 176, 177, 178, 179, 180, 181]) (by decide +kernel)
theorem sr_5 : Cond.stringRef RX8 108 "#CHROM\tPOS\tID\tREF\tALT\tQUAL\tFILTER\tINFO" ∈ lw_tbl := mem_at (j := 933) (by decide +kernel)
theorem st_6 : ∀ w ∈ stW (RX8, 110, "FORMAT", tx6), w ∈ flatC nrw := mem_ps (ps := [182, 183, 184, 185, 186, 187, 188, 189, 190, 191]) (by decide +kernel)
theorem sr_6 : Cond.stringRef RX8 110 "FORMAT" ∈ lw_tbl := mem_at (j := 934) (by decide +kernel)
theorem st_7 : ∀ w ∈ stW (RX8, 167, ".", tx7), w ∈ flatC nrw := mem_ps (ps := [192, 193, 194, 195, 196]) (by decide +kernel)
theorem sr_7 : Cond.stringRef RX8 167 "." ∈ lw_tbl := mem_at (j := 990) (by decide +kernel)
theorem st_8 : ∀ w ∈ stW (RX8, 227, "PASS", tx8), w ∈ flatC nrw := mem_ps (ps := [197, 198, 199, 200, 201, 202, 203, 204]) (by decide +kernel)
theorem sr_8 : Cond.stringRef RX8 227 "PASS" ∈ lw_tbl := mem_at (j := 1031) (by decide +kernel)
theorem st_9 : ∀ w ∈ stW (RX8, 172, "GT", tx9), w ∈ flatC nrw := mem_ps (ps := [205, 206, 207, 208, 209, 210]) (by decide +kernel)
theorem sr_9 : Cond.stringRef RX8 172 "GT" ∈ lw_tbl := mem_at (j := 1032) (by decide +kernel)
theorem st_10 : ∀ w ∈ stW (RX9, 279, "no such sequence", tx10), w ∈ flatC nrw := mem_ps (ps := [211, 212, 213, 214, 215, 216, 217, 218, 219, 220, 221, 222, 223, 224, 225, 226, 227, 228, 229, 230]) (by decide +kernel)
theorem sr_10 : Cond.stringRef RX9 279 "no such sequence" ∈ lw_tbl := mem_at (j := 1061) (by decide +kernel)
theorem st_11 : ∀ w ∈ stW (RX9, 138, "a sequence has no such number", tx11), w ∈ flatC nrw := mem_ps (ps := [231, 232, 233, 234, 235, 236, 237, 238, 239, 240, 241, 242, 243, 244, 245, 246, 247, 248, 249, 250, 251, 252, 253, 254, 255, 256, 257, 258, 259, 260, 261, 262, 263]) (by decide +kernel)
theorem sr_11 : Cond.stringRef RX9 138 "a sequence has no such number" ∈ lw_tbl := mem_at (j := 1066) (by decide +kernel)
theorem st_12 : ∀ w ∈ stW (RX9, 148, "no such place or octet", tx12), w ∈ flatC nrw := mem_ps (ps := [264, 265, 266, 267, 268, 269, 270, 271, 272, 273, 274, 275, 276, 277, 278, 279, 280, 281, 282, 283, 284, 285, 286, 287, 288, 289]) (by decide +kernel)
theorem sr_12 : Cond.stringRef RX9 148 "no such place or octet" ∈ lw_tbl := mem_at (j := 1080) (by decide +kernel)
theorem st_13 : ∀ w ∈ stW (RX9, 150, "a table has no such number", tx13), w ∈ flatC nrw := mem_ps (ps := [290, 291, 292, 293, 294, 295, 296, 297, 298, 299, 300, 301, 302, 303, 304, 305, 306, 307, 308, 309, 310, 311, 312, 313, 314, 315, 316, 317, 318, 319]) (by decide +kernel)
theorem sr_13 : Cond.stringRef RX9 150 "a table has no such number" ∈ lw_tbl := mem_at (j := 1088) (by decide +kernel)
theorem st_14 : ∀ w ∈ stW (RX9, 275, "no such record", tx14), w ∈ flatC nrw := mem_ps (ps := [320, 321, 322, 323, 324, 325, 326, 327, 328, 329, 330, 331, 332, 333, 334, 335, 336, 337]) (by decide +kernel)
theorem sr_14 : Cond.stringRef RX9 275 "no such record" ∈ lw_tbl := mem_at (j := 1100) (by decide +kernel)
theorem st_15 : ∀ w ∈ stW (RX9, 179, "a record has no such number", tx15), w ∈ flatC nrw := mem_ps (ps := [338, 339, 340, 341, 342, 343, 344, 345, 346, 347, 348, 349, 350, 351, 352, 353, 354, 355, 356, 357, 358, 359, 360, 361, 362, 363, 364, 365, 366, 367, 368]) (by decide +kernel)
theorem sr_15 : Cond.stringRef RX9 179 "a record has no such number" ∈ lw_tbl := mem_at (j := 1101) (by decide +kernel)
theorem st_16 : ∀ w ∈ stW (RX9, 181, "no such row", tx16), w ∈ flatC nrw := mem_ps (ps := [369, 370, 371, 372, 373, 374, 375, 376, 377, 378, 379, 380, 381, 382, 383]) (by decide +kernel)
theorem sr_16 : Cond.stringRef RX9 181 "no such row" ∈ lw_tbl := mem_at (j := 1109) (by decide +kernel)
theorem st_17 : ∀ w ∈ stW (RX9, 277, "no such sample", tx17), w ∈ flatC nrw := mem_ps (ps := [384, 385, 386, 387, 388, 389, 390, 391, 392, 393, 394, 395, 396, 397, 398, 399, 400, 401]) (by decide +kernel)
theorem sr_17 : Cond.stringRef RX9 277 "no such sample" ∈ lw_tbl := mem_at (j := 1122) (by decide +kernel)
theorem st_18 : ∀ w ∈ stW (RX9, 201, "a sample has no such number", tx18), w ∈ flatC nrw := mem_ps (ps := [402, 403, 404, 405, 406, 407, 408, 409, 410, 411, 412, 413, 414, 415, 416, 417, 418, 419, 420, 421, 422, 423, 424, 425, 426, 427, 428, 429, 430, 431, 432]) (by decide +kernel)
theorem sr_18 : Cond.stringRef RX9 201 "a sample has no such number" ∈ lw_tbl := mem_at (j := 1127) (by decide +kernel)
theorem st_19 : ∀ w ∈ stW (RX9, 237, "no such haplotype", tx19), w ∈ flatC nrw := mem_ps (ps := [433, 434, 435, 436, 437, 438, 439, 440, 441, 442, 443, 444, 445, 446, 447, 448, 449, 450, 451, 452, 453]) (by decide +kernel)
theorem sr_19 : Cond.stringRef RX9 237 "no such haplotype" ∈ lw_tbl := mem_at (j := 1287) (by decide +kernel)
theorem st_20 : ∀ w ∈ stW (RX7, 120, "##fileformat=VCFv4.3", tx3), w ∈ flatC nrw := mem_ps (ps := [454, 455, 456, 457, 458, 459, 460, 461, 462, 463, 464, 465, 466, 467, 468, 469, 470, 471, 472, 473, 474, 475, 476, 477]) (by decide +kernel)
theorem sr_20 : Cond.stringRef RX7 120 "##fileformat=VCFv4.3" ∈ lw_tbl := mem_at (j := 1352) (by decide +kernel)
theorem st_21 : ∀ w ∈ stW (RX7, 131, "#CHROM\tPOS\tID\tREF\tALT\tQUAL\tFILTER\tINFO", tx5), w ∈ flatC nrw := mem_ps (ps := [479, 480, 481, 482, 483, 484, 485, 486, 487, 488, 489, 490, 491, 492, 493, 494, 495, 496, 497, 498, 499, 500, 501, 502, 503, 504, 505, 506, 507, 508, 509, 510, 511, 512, 513, 514, 515, 516, 517, 518, 519, 520]) (by decide +kernel)
theorem sr_21 : Cond.stringRef RX7 131 "#CHROM\tPOS\tID\tREF\tALT\tQUAL\tFILTER\tINFO" ∈ lw_tbl := mem_at (j := 1358) (by decide +kernel)
theorem st_22 : ∀ w ∈ stW (RX7, 133, "FORMAT", tx6), w ∈ flatC nrw := mem_ps (ps := [522, 523, 524, 525, 526, 527, 528, 529, 530, 531]) (by decide +kernel)
theorem sr_22 : Cond.stringRef RX7 133 "FORMAT" ∈ lw_tbl := mem_at (j := 1359) (by decide +kernel)
theorem st_23 : ∀ w ∈ stW (RX0, 175, "PASS", tx8), w ∈ flatC nrw := mem_ps (ps := [533, 534, 535, 536, 537, 538, 539, 540]) (by decide +kernel)
theorem sr_23 : Cond.stringRef RX0 175 "PASS" ∈ lw_tbl := mem_at (j := 1386) (by decide +kernel)
theorem st_24 : ∀ w ∈ stW (RX0, 177, ".", tx7), w ∈ flatC nrw := mem_ps (ps := [542, 543, 544, 545, 546]) (by decide +kernel)
theorem sr_24 : Cond.stringRef RX0 177 "." ∈ lw_tbl := mem_at (j := 1387) (by decide +kernel)
theorem st_25 : ∀ w ∈ stW (RX0, 183, "GT", tx9), w ∈ flatC nrw := mem_ps (ps := [548, 549, 550, 551, 552, 553]) (by decide +kernel)
theorem sr_25 : Cond.stringRef RX0 183 "GT" ∈ lw_tbl := mem_at (j := 1389) (by decide +kernel)
theorem st_all : ∀ r ∈ strTab, (∀ w ∈ stW r, w ∈ flatC nrw) ∧ Cond.stringRef r.1 r.2.1 r.2.2.1 ∈ lw_tbl := List.forall_mem_cons.mpr ⟨⟨st_0, sr_0⟩, List.forall_mem_cons.mpr ⟨⟨st_1, sr_1⟩, List.forall_mem_cons.mpr ⟨⟨st_2, sr_2⟩, List.forall_mem_cons.mpr ⟨⟨st_3, sr_3⟩, List.forall_mem_cons.mpr ⟨⟨st_4, sr_4⟩, List.forall_mem_cons.mpr ⟨⟨st_5, sr_5⟩, List.forall_mem_cons.mpr ⟨⟨st_6, sr_6⟩, List.forall_mem_cons.mpr ⟨⟨st_7, sr_7⟩, List.forall_mem_cons.mpr ⟨⟨st_8, sr_8⟩, List.forall_mem_cons.mpr ⟨⟨st_9, sr_9⟩, List.forall_mem_cons.mpr ⟨⟨st_10, sr_10⟩, List.forall_mem_cons.mpr ⟨⟨st_11, sr_11⟩, List.forall_mem_cons.mpr ⟨⟨st_12, sr_12⟩, List.forall_mem_cons.mpr ⟨⟨st_13, sr_13⟩, List.forall_mem_cons.mpr ⟨⟨st_14, sr_14⟩, List.forall_mem_cons.mpr ⟨⟨st_15, sr_15⟩, List.forall_mem_cons.mpr ⟨⟨st_16, sr_16⟩, List.forall_mem_cons.mpr ⟨⟨st_17, sr_17⟩, List.forall_mem_cons.mpr ⟨⟨st_18, sr_18⟩, List.forall_mem_cons.mpr ⟨⟨st_19, sr_19⟩, List.forall_mem_cons.mpr ⟨⟨st_20, sr_20⟩, List.forall_mem_cons.mpr ⟨⟨st_21, sr_21⟩, List.forall_mem_cons.mpr ⟨⟨st_22, sr_22⟩, List.forall_mem_cons.mpr ⟨⟨st_23, sr_23⟩, List.forall_mem_cons.mpr ⟨⟨st_24, sr_24⟩, List.forall_mem_cons.mpr ⟨⟨st_25, sr_25⟩, fun _ h => absurd h List.not_mem_nil⟩⟩⟩⟩⟩⟩⟩⟩⟩⟩⟩⟩⟩⟩⟩⟩⟩⟩⟩⟩⟩⟩⟩⟩⟩⟩
theorem st_len : ∀ r ∈ strTab, r.2.2.2.length < 2 ^ 31 := by decide +kernel
theorem st_of {E : eN} {args : Array Value} {r : String × Nat × String × List Nat} (h : ∀ w ∈ stW r, w.before args (S0 E) = true) (h2 : (Cond.stringRef r.1 r.2.1 r.2.2.1).before args (S0 E) = true) (hn : r.2.2.2.length < 2 ^ 31) : ∃ q : Nat, vk_R r.1 r.2.1 r.2.2.1 q (S0 E) ∧ strAt E r.2.2.2 q := by
  have hA : ∀ a : Nat, a < (S0 E).heap.size → ¬ aA E a := fun a ha => Nat.not_le.mpr ha
  obtain ⟨a, c, cA, kA, q1, q2, q3, q4, q5, q6, -⟩ := Cond.exactly_spec (args := args) (first := S0 E) (o := none) (s := S0 E) (idx := []) (t := .string r.1 r.2.1) (cls := "java/lang/String") (h _ (by simp [stW]))
  obtain ⟨v, hv, hT⟩ := va_Tof (ty := .byte) (N := r.2.2.2.length) (args := args) (s := S0 E) (tm := .field (.string r.1 r.2.1) "java/lang/String" "value" "[B") (f := fun j => .int (nI (r.2.2.2.getD j 0))) (A := aA E) hn (h _ (by simp [stW])) (va_eqt (h _ (by simp [stW]))) (fun j hj => va_eqt (h _ (by
    unfold stW
    refine List.mem_cons_of_mem _ (List.mem_cons_of_mem _ (List.mem_cons_of_mem _ (List.mem_cons_of_mem _ (List.mem_map.mpr ⟨j, List.mem_range.mpr hj, rfl⟩))))))) hA
  exact ⟨a, vk_R.of h2 q1, v, ⟨cA, q3, q5, by rw [q6]; exact q2, hA a (Array.getElem?_eq_some_iff.mp q3).1⟩, vk_OFof q1 (va_eqt (h _ (by simp [stW]))) hA, vk_OFof q1 hv hA, hT⟩
theorem in_all : ∀ (ci : Nat) (q : vw_C), vwCl[ci]? = some q → Cond.instantiable q.1 q.2.2 ∈ lw_tbl := by
  intro ci q h
  match ci, h with
  | 0, h => cases h; exact (mem_at (j := 251) (by decide +kernel))
  | 1, h => cases h; exact (mem_at (j := 175) (by decide +kernel))
  | 2, h => cases h; exact (mem_at (j := 432) (by decide +kernel))
  | 3, h => cases h; exact (mem_at (j := 363) (by decide +kernel))
  | 4, h => cases h; exact (mem_at (j := 345) (by decide +kernel))
  | 5, h => cases h; exact (mem_at (j := 181) (by decide +kernel))
  | 6, h => cases h; exact (mem_at (j := 153) (by decide +kernel))
  | 7, h => cases h; exact (mem_at (j := 242) (by decide +kernel))
  | 8, h => cases h; exact (mem_at (j := 801) (by decide +kernel))
  | 9, h => cases h; exact (mem_at (j := 145) (by decide +kernel))
  | 10, h => cases h; exact (mem_at (j := 1395) (by decide +kernel))
  | ci + 11, h => simp [vwCl] at h
theorem ar_all {s : State} {args : Array Value} (hts : ∀ w ∈ lw_tbl, w.before args s = true) : ∀ k : Nat, ∃ cA : ClassId, ArrOfT s cA (aK k) ∧ va_RA s cA (aK k) := by
  intro k
  match k with
  | 0 =>
    obtain ⟨cA, kA, comp, h1, h2, h3⟩ := Cond.arrayClass_spec (hts _ (acX 0 (by decide)))
    exact ⟨cA, fun n z => ⟨fun k h => (by cases h), kA, h2, comp, h3⟩, h1⟩
  | 1 =>
    obtain ⟨cA, kA, comp, h1, h2, h3⟩ := Cond.arrayClass_spec (hts _ (acX 1 (by decide)))
    exact ⟨cA, fun n z => ⟨fun k h => (by cases h), kA, h2, comp, h3⟩, h1⟩
  | 2 =>
    obtain ⟨cA, kA, comp, h1, h2, h3⟩ := Cond.arrayClass_spec (hts _ (acX 2 (by decide)))
    exact ⟨cA, fun n z => ⟨fun k h => (by cases h), kA, h2, comp, h3⟩, h1⟩
  | 3 =>
    obtain ⟨cA, kA, comp, h1, h2, h3⟩ := Cond.arrayClass_spec (hts _ (acX 3 (by decide)))
    exact ⟨cA, fun n z => ⟨fun k h => (by cases h), kA, h2, comp, h3⟩, h1⟩
  | 4 =>
    obtain ⟨comp, cA, kA, h1, -, h2, h3, h4⟩ := Cond.arrayOver_spec (hts (.arrayOver (.object RX0)) (mem_at (j := 248) (by decide +kernel)))
    exact ⟨cA, fun n z => ⟨fun k h => (by cases h), kA, h2, comp, h3⟩, kA, comp, h2, h3, h1, h4⟩
  | k + 5 =>
    obtain ⟨comp, cA, kA, h1, -, h2, h3, h4⟩ := Cond.arrayOver_spec (hts (.arrayOver (.object RX7)) (mem_at (j := 241) (by decide +kernel)))
    exact ⟨cA, fun n z => ⟨fun k h => (by cases h), kA, h2, comp, h3⟩, kA, comp, h2, h3, h1, h4⟩
/-- the world at the start -/
theorem e_start {s : State} {l : Launch} {args : Array Value} (hl : l.flags = flags0) (hts : ∀ w ∈ lw_tbl, w.before args s = true) (hgv : nrw.before args s = true) : ∃ E : eN, S0 E = s ∧ E.2.2.2 = l ∧ eOk E ∧ eSt E ∧ eTh E := by
  have hc : ∀ ci : Nat, ∃ p : ClassId × (Nat → Nat), ∀ q : vw_C, vwCl[ci]? = some q → u_Kn s q.1 q.2.1 q.2.2 p.1 p.2 := by
    intro ci
    cases hq : vwCl[ci]? with
    | none => exact ⟨(0, fun _ => 0), fun q h => by cases h⟩
    | some q =>
      obtain ⟨cC, iS, h⟩ := u_known (C := q.1) (T := q.2.1) (N := q.2.2) (n := q.2.2) hts (fun w hw => ((clOk ci q hq).1 w hw).1) (hts _ (in_all ci q hq))
      exact ⟨(cC, iS), fun q' h' => by cases h'; exact h⟩
  obtain ⟨pc, hpc⟩ := Classical.axiomOfChoice hc
  obtain ⟨ac, hac⟩ := Classical.axiomOfChoice (ar_all hts)
  have hA : ∀ a : Nat, a < s.heap.size → ¬ (fun q : Nat => s.heap.size ≤ q) a := fun a ha => Nat.not_le.mpr ha
  have hfl := flat_of_before _ hgv
  refine ⟨((fun k => (pc k).1, fun k => (pc k).2), ac, s, l), rfl, rfl, ⟨⟨fun ci q hq => hpc ci q hq, fun k q hk => ?_⟩, args, hts⟩, ⟨?_, ?_, fun r hr => ?_⟩, ?_, ?_, ?_⟩
  · unfold tyE at hk
    match k, hk with
    | 0, hk => cases hk; exact hac 0
    | 1, hk => cases hk; exact hac 1
    | 2, hk => cases hk; exact hac 2
    | 3, hk => cases hk; exact hac 3
    | 4, hk => cases hk; exact hac 4
    | 5, hk => cases hk; exact hac 5
    | k + 6, hk => simp at hk
  · exact va_Zof (hts _ (mem_at (j := 875) (by decide +kernel))) (hts _ (mem_at (j := 139) (by decide +kernel))) (va_eqt (hfl (Cond.eq (.static "java/lang/String" "COMPACT_STRINGS" "Z") (.int 1)) (List.mem_of_getElem? (i := 6) (by decide +kernel)))) hA
  · exact va_Zqof (hts _ (mem_at (j := 895) (by decide +kernel))) (hts _ (mem_at (j := 141) (by decide +kernel))) (hfl (Cond.isRef (.static "jdk/internal/util/Preconditions" "SIOOBE_FORMATTER" "Ljava/util/function/BiFunction;")) (List.mem_of_getElem? (i := 7) (by decide +kernel))) hA
  · obtain ⟨h1, h2⟩ := st_all r hr
    exact st_of (args := args) (fun w hw => hfl w (h1 w hw)) (hts _ h2) (st_len r hr)
  · show l.stackTraces = false
    unfold Launch.stackTraces
    rw [hl]
    decide +kernel
  · exact vx_Zqof (hts _ (mem_at (j := 727) (by decide +kernel))) (hts _ (mem_at (j := 132) (by decide +kernel))) (hfl (Cond.isRef (.static Bundle.tN "UNASSIGNED_STACK" Bundle.steD)) (List.mem_of_getElem? (i := 4) (by decide +kernel))) hA
  · exact vx_Zqof (hts _ (mem_at (j := 729) (by decide +kernel))) (hts _ (mem_at (j := 132) (by decide +kernel))) (hfl (Cond.isRef (.static Bundle.tN "SUPPRESSED_SENTINEL" Bundle.listD)) (List.mem_of_getElem? (i := 5) (by decide +kernel))) hA
