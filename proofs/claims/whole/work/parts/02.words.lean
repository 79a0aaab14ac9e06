/-! CHECKS: what the resolved code rests on, decided once (by program: wip/whole/emit7.py) -/
def xz_lcs : List Int64 := [4294967295, 0, 1, 100, 10000000000, -9223372036854775808, 2, 5, 9, 3, 127, 99, 48, 57, 6, -1, 4, 97, 122]
def xz_lc (i : Nat) : Int64 := xz_lcs.getD i 0
def xz_TB : List Cond := lw_tbl.filter goodWord
theorem xz_in_TB {w : Cond} (i : Nat) (h : lw_tbl[i]? = some w) (hg : goodWord w = true) : w ∈ xz_TB := List.mem_filter.mpr ⟨List.mem_of_getElem? h, hg⟩
theorem xz_TBgood : GoodIn xz_TB xz_TB := fun w h => ⟨h, good_of_word (List.mem_filter.mp h).2⟩
theorem xz_TBsub : ∀ w ∈ xz_TB, w ∈ lw_tbl := fun _ h => (List.mem_filter.mp h).1
/-- a list of words, each with its place in the tables -/
def xz_pl {α : Type} (f : α → Cond) (l : List (α × Nat)) : Bool := l.all fun q => decide (lw_tbl[q.2]? = some (f q.1)) && goodWord (f q.1)
theorem xz_pl_ok {α : Type} {f : α → Cond} {l : List (α × Nat)} (h : xz_pl f l = true) : ∀ a ∈ l.map (·.1), f a ∈ xz_TB := by
  intro a ha
  obtain ⟨q, hq, rfl⟩ := List.mem_map.mp ha
  have h1 := List.all_eq_true.mp h q hq
  simp only [Bool.and_eq_true, decide_eq_true_eq] at h1
  exact xz_in_TB _ h1.1 h1.2
def xz_RNs : List String := [RX0, RX1, RX2, RX3, RX4, RX5, RX6, RX7, RX8, RL, RJ6, RJ9, RJ7, RJ0, RJ1, RJ3]
def xz_RN (o : Nat) : String := xz_RNs.getD o ""
def xz_T (a : Nat) : u_T := match a with
  | 0 => TX0
  | 1 => TX1
  | 2 => TX2
  | 3 => TX3
  | 4 => TX4
  | 5 => TX5
  | 6 => TX6
  | 7 => TX7
  | _ => TX8
def xz_ty (a : Nat) : Nat → FieldType := match a with
  | 0 => tyX0
  | 1 => tyX1
  | 2 => tyX2
  | 3 => tyX3
  | 4 => tyX4
  | 5 => tyX5
  | 6 => tyX6
  | 7 => tyX7
  | _ => tyX8
def xz_NCs : List Nat := [6, 1, 5, 9, 3, 6, 10, 8, 51]
def xz_NC (a : Nat) : Nat := xz_NCs.getD a 0
def xz_fks : List (List Nat) := [[0, 2, 2, 2, 2, 2], [2], [0, 0, 2, 2, 2], [0, 0, 0, 0, 0, 2, 2, 2, 2], [2, 2, 2], [0, 0, 2, 2, 2, 0], [0, 0, 0, 0, 1, 2, 2, 2, 2, 2], [2, 2, 2, 2, 2, 2, 2, 3], [0, 0, 2, 2, 2, 2, 2, 0, 0, 0, 0, 0, 0, 0, 2, 2, 2, 2, 2, 2, 2, 2, 0, 0, 0, 0, 2, 2, 0, 0, 0, 0, 0, 0, 0, 1, 3, 3, 2, 2, 2, 2, 3, 2, 2, 2, 2, 2, 2, 2, 2]]
def xz_fk (a : Nat) : List Nat := xz_fks.getD a []
theorem xz_cl : ∀ a, a < 9 → vwCl[a]? = some (xz_RN a, xz_T a, xz_NC a) := by
  intro a ha
  match a, ha with
  | 0, _ => rfl
  | 1, _ => rfl
  | 2, _ => rfl
  | 3, _ => rfl
  | 4, _ => rfl
  | 5, _ => rfl
  | 6, _ => rfl
  | 7, _ => rfl
  | 8, _ => rfl
theorem xz_nm : ∀ a, a < 9 → ∀ i, i < xz_NC a → ∀ j, j < xz_NC a → i ≠ j → (xz_T a i).2.1 ≠ (xz_T a j).2.1 := by
  intro a ha
  match a, ha with
  | 0, _ => exact nmX0
  | 1, _ => exact nmX1
  | 2, _ => exact nmX2
  | 3, _ => exact nmX3
  | 4, _ => exact nmX4
  | 5, _ => exact nmX5
  | 6, _ => exact nmX6
  | 7, _ => exact nmX7
  | 8, _ => exact nmX8
theorem xz_tyok : ∀ a, a < 9 → ∀ k, k < xz_NC a → parseFieldDescriptor (xz_T a k).2.2.1 = some (xz_ty a k) := by
  intro a ha
  match a, ha with
  | 0, _ => exact tyX0_ok
  | 1, _ => exact tyX1_ok
  | 2, _ => exact tyX2_ok
  | 3, _ => exact tyX3_ok
  | 4, _ => exact tyX4_ok
  | 5, _ => exact tyX5_ok
  | 6, _ => exact tyX6_ok
  | 7, _ => exact tyX7_ok
  | 8, _ => exact tyX8_ok
def xz_kty (t : FieldType) : Nat := match t with
  | .int => 0
  | .long => 1
  | .boolean => 3
  | .object _ => 2
  | .array _ => 2
  | _ => 9
theorem xz_fkok : ∀ a, a < 9 → ∀ k, k < xz_NC a → (xz_fk a)[k]? = some (xz_kty (xz_ty a k)) := by decide +kernel
theorem xz_fklen : ∀ a, a < 9 → (xz_fk a).length = xz_NC a := by decide +kernel
def xz_layp : List ((Nat × Nat) × Nat) := [((0, 0), 107), ((0, 1), 109), ((0, 2), 111), ((0, 3), 113), ((0, 4), 115), ((0, 5), 117), ((1, 0), 200), ((2, 0), 137), ((2, 1), 139), ((2, 2), 141), ((2, 3), 143), ((2, 4), 145), ((3, 0), 174), ((3, 1), 176), ((3, 2), 178), ((3, 3), 180), ((3, 4), 182), ((3, 5), 184), ((3, 6), 186), ((3, 7), 188), ((3, 8), 190), ((4, 0), 292), ((4, 1), 294), ((4, 2), 296), ((5, 0), 262), ((5, 1), 264), ((5, 2), 266), ((5, 3), 268), ((5, 4), 270), ((5, 5), 272), ((6, 0), 225), ((6, 1), 227), ((6, 2), 229), ((6, 3), 231), ((6, 4), 233), ((6, 5), 235), ((6, 6), 237), ((6, 7), 239), ((6, 8), 241), ((6, 9), 243), ((7, 0), 308), ((7, 1), 310), ((7, 2), 312), ((7, 3), 314), ((7, 4), 316), ((7, 5), 318), ((7, 6), 320), ((7, 7), 322), ((8, 0), 892), ((8, 1), 894), ((8, 2), 896), ((8, 3), 898), ((8, 4), 900), ((8, 5), 902), ((8, 6), 904), ((8, 7), 906), ((8, 8), 908), ((8, 9), 910), ((8, 10), 912), ((8, 11), 914), ((8, 12), 916), ((8, 13), 918), ((8, 14), 920), ((8, 15), 922), ((8, 16), 924), ((8, 17), 926), ((8, 18), 928), ((8, 19), 930), ((8, 20), 932), ((8, 21), 934), ((8, 22), 936), ((8, 23), 938), ((8, 24), 940), ((8, 25), 942), ((8, 26), 944), ((8, 27), 946), ((8, 28), 948), ((8, 29), 950), ((8, 30), 952), ((8, 31), 954), ((8, 32), 956), ((8, 33), 958), ((8, 34), 960), ((8, 35), 962), ((8, 36), 964), ((8, 37), 966), ((8, 38), 968), ((8, 39), 970), ((8, 40), 972), ((8, 41), 974), ((8, 42), 976), ((8, 43), 978), ((8, 44), 980), ((8, 45), 982), ((8, 46), 984), ((8, 47), 986), ((8, 48), 988), ((8, 49), 990), ((8, 50), 992)]
theorem xz_layc : xz_pl (fun q => u_lay (xz_RN q.1) (xz_T q.1) q.2) xz_layp = true := by decide +kernel
theorem xz_laya0 : ((List.range 9).all fun a => (List.range (xz_NC a)).all fun k => (xz_layp.map (·.1)).any fun q => q.1 == a && q.2 == k) = true := by decide +kernel
theorem xz_laya (a : Nat) (ha : a < 9) (k : Nat) (hk : k < xz_NC a) : (a, k) ∈ xz_layp.map (·.1) := by
  have h1 := List.all_eq_true.mp (List.all_eq_true.mp xz_laya0 a (List.mem_range.mpr ha)) k (List.mem_range.mpr hk)
  obtain ⟨q, hq, h2⟩ := List.any_eq_true.mp h1
  obtain ⟨u, w⟩ := q
  simp only [Bool.and_eq_true, beq_iff_eq] at h2
  obtain ⟨rfl, rfl⟩ := h2
  exact hq
theorem xz_inT {a : Nat} (ha : a < 9) : ∀ w ∈ u_ws (xz_RN a) (xz_T a) (xz_NC a), w ∈ xz_TB := by
  intro w hw
  obtain ⟨k, hk, rfl⟩ := List.mem_map.mp hw
  exact xz_pl_ok (f := fun q : Nat × Nat => u_lay (xz_RN q.1) (xz_T q.1) q.2) xz_layc (a, k) (xz_laya a ha k (List.mem_range.mp hk))
noncomputable def xz_mns : List MethodName := [x, yX0_add, yX0_become, yX0_change, yX0_hasCome, yX0_howManyAhead, yX0_init, yX0_isThere, yX0_left, yX0_other, yX0_refusal, yX0_remove, yX0_removeAllOf, yX0_taker, yX1_fill, yX1_fillWithout, yX1_give, yX1_handOn, yX1_howManyAhead, yX1_init, yX1_of, yX2_add, yX2_become, yX2_clear, yX2_init, yX3_become, yX3_init, yX3_isPair, yX3_isPerson, yX3_startAnew, yX3_undergo, yX4_become, yX4_cutTo, yX4_hasPlace, yX4_hasRun, yX4_holds, yX4_init, yX4_isTape, yX4_put, yX5_add, yX5_empty, yX5_init, yX5_isDigit, yX5_isLetter, yX5_isSpelt, yX5_number, yX5_parse, yX5_sign, yX5_spelling, yX5_takeClause, yX5_takeNumber, yX5_widths, yX5_word, yX5_wordHere, yX6_goOn, yX6_init, yX6_isBetter, yX6_leastBy, yX6_search, yX6_take, yX7_after, yX7_agenda, yX7_ask, yX7_between, yX7_book, yX7_by, yX7_commonDivisor, yX7_count, yX7_cut, yX7_cutsAll, yX7_delay, yX7_drop, yX7_event, yX7_eventRefusal, yX7_feed, yX7_fits, yX7_hasBit, yX7_holder, yX7_image, yX7_init, yX7_isAsSeen, yX7_isDelay, yX7_isPart, yX7_isRule, yX7_isSure, yX7_isTime, yX7_item, yX7_judge, yX7_judgeFrom, yX7_latest, yX7_leastCut, yX7_looked, yX7_lowest, yX7_mayCut, yX7_mean, yX7_meet, yX7_meeting, yX7_obey, yX7_odds, yX7_peek, yX7_people, yX7_points, yX7_rank, yX7_reach, yX7_reached, yX7_read, yX7_refusalOf, yX7_renew, yX7_see, yX7_shift, yX7_sureness, yX7_tape, yX7_told, yX7_undo, yX7_way, yX8_after, yX8_agenda, yX8_areTwo, yX8_ask, yX8_between, yX8_bits, yX8_book, yX8_by, yX8_clauseRead, yX8_comes, yX8_count, yX8_cut, yX8_delay, yX8_done, yX8_drop, yX8_event, yX8_feed, yX8_finds, yX8_fits, yX8_goes, yX8_happens, yX8_has, yX8_holder, yX8_image, yX8_in, yX8_init, yX8_isAsSeen, yX8_isBetter, yX8_isPart, yX8_isPerson, yX8_isRule, yX8_isSet, yX8_isTape, yX8_isThereOne, yX8_isTime, yX8_isWord, yX8_item, yX8_judge, yX8_latest, yX8_leastCut, yX8_left, yX8_looked, yX8_lowest, yX8_mayBeIn, yX8_mean, yX8_meet, yX8_meeting, yX8_numberRead, yX8_odds, yX8_otherBy, yX8_peek, yX8_people, yX8_points, yX8_rank, yX8_reach, yX8_reachOf, yX8_reachedSet, yX8_read, yX8_refusal, yX8_refusal_, yX8_renew, yX8_row, yX8_see, yX8_shift, yX8_signAt, yX8_sureOf, yX8_sureness, yX8_tape, yX8_tellReaches, yX8_told, yX8_undo, yX8_way, yX8_ways, yX8_wordRead, yJ0_charAt_5068e, yJ0_checkIndex_df160, yJ0_coder_7d493, yJ0_isLatin1_aae02, yJ0_length_8abf5, yJ1_charAt_3b067, yJ3_checkIndex_8e157, yJ6_bitCount_0f7a4, yJ7_fill_53178, yJ7_fill_d0a16, yJ9_max_f86c9]
noncomputable def xz_mbs : List ByteArray := [code, cX0_add, cX0_become, cX0_change, cX0_hasCome, cX0_howManyAhead, cX0_init, cX0_isThere, cX0_left, cX0_other, cX0_refusal, cX0_remove, cX0_removeAllOf, cX0_taker, cX1_fill, cX1_fillWithout, cX1_give, cX1_handOn, cX1_howManyAhead, cX1_init, cX1_of, cX2_add, cX2_become, cX2_clear, cX2_init, cX3_become, cX3_init, cX3_isPair, cX3_isPerson, cX3_startAnew, cX3_undergo, cX4_become, cX4_cutTo, cX4_hasPlace, cX4_hasRun, cX4_holds, cX4_init, cX4_isTape, cX4_put, cX5_add, cX5_empty, cX5_init, cX5_isDigit, cX5_isLetter, cX5_isSpelt, cX5_number, cX5_parse, cX5_sign, cX5_spelling, cX5_takeClause, cX5_takeNumber, cX5_widths, cX5_word, cX5_wordHere, cX6_goOn, cX6_init, cX6_isBetter, cX6_leastBy, cX6_search, cX6_take, cX7_after, cX7_agenda, cX7_ask, cX7_between, cX7_book, cX7_by, cX7_commonDivisor, cX7_count, cX7_cut, cX7_cutsAll, cX7_delay, cX7_drop, cX7_event, cX7_eventRefusal, cX7_feed, cX7_fits, cX7_hasBit, cX7_holder, cX7_image, cX7_init, cX7_isAsSeen, cX7_isDelay, cX7_isPart, cX7_isRule, cX7_isSure, cX7_isTime, cX7_item, cX7_judge, cX7_judgeFrom, cX7_latest, cX7_leastCut, cX7_looked, cX7_lowest, cX7_mayCut, cX7_mean, cX7_meet, cX7_meeting, cX7_obey, cX7_odds, cX7_peek, cX7_people, cX7_points, cX7_rank, cX7_reach, cX7_reached, cX7_read, cX7_refusalOf, cX7_renew, cX7_see, cX7_shift, cX7_sureness, cX7_tape, cX7_told, cX7_undo, cX7_way, cX8_after, cX8_agenda, cX8_areTwo, cX8_ask, cX8_between, cX8_bits, cX8_book, cX8_by, cX8_clauseRead, cX8_comes, cX8_count, cX8_cut, cX8_delay, cX8_done, cX8_drop, cX8_event, cX8_feed, cX8_finds, cX8_fits, cX8_goes, cX8_happens, cX8_has, cX8_holder, cX8_image, cX8_in, cX8_init, cX8_isAsSeen, cX8_isBetter, cX8_isPart, cX8_isPerson, cX8_isRule, cX8_isSet, cX8_isTape, cX8_isThereOne, cX8_isTime, cX8_isWord, cX8_item, cX8_judge, cX8_latest, cX8_leastCut, cX8_left, cX8_looked, cX8_lowest, cX8_mayBeIn, cX8_mean, cX8_meet, cX8_meeting, cX8_numberRead, cX8_odds, cX8_otherBy, cX8_peek, cX8_people, cX8_points, cX8_rank, cX8_reach, cX8_reachOf, cX8_reachedSet, cX8_read, cX8_refusal, cX8_refusal_, cX8_renew, cX8_row, cX8_see, cX8_shift, cX8_signAt, cX8_sureOf, cX8_sureness, cX8_tape, cX8_tellReaches, cX8_told, cX8_undo, cX8_way, cX8_ways, cX8_wordRead, cJ0_charAt_5068e, cJ0_checkIndex_df160, cJ0_coder_7d493, cJ0_isLatin1_aae02, cJ0_length_8abf5, cJ1_charAt_3b067, cJ3_checkIndex_8e157, cJ6_bitCount_0f7a4, cJ7_fill_53178, cJ7_fill_d0a16, cJ9_max_f86c9]
def xz_mls : List Nat := [4, 5, 3, 6, 2, 4, 1, 2, 3, 3, 2, 2, 3, 6, 3, 8, 6, 9, 4, 1, 2, 4, 3, 1, 2, 2, 1, 3, 2, 2, 3, 4, 3, 3, 4, 2, 1, 2, 5, 2, 1, 1, 1, 1, 4, 4, 3, 2, 1, 5, 4, 1, 2, 3, 9, 1, 5, 4, 3, 5, 3, 3, 4, 5, 4, 2, 11, 2, 2, 2, 3, 3, 4, 3, 2, 5, 2, 3, 1, 1, 5, 1, 1, 1, 1, 1, 5, 3, 10, 2, 5, 2, 7, 2, 5, 5, 4, 2, 5, 3, 3, 3, 3, 2, 3, 4, 3, 6, 5, 6, 3, 4, 2, 1, 3, 5, 5, 3, 4, 5, 3, 3, 2, 3, 5, 2, 2, 3, 3, 3, 3, 2, 6, 6, 7, 4, 2, 5, 2, 6, 1, 3, 5, 1, 2, 1, 2, 1, 2, 1, 4, 7, 12, 4, 3, 3, 2, 11, 2, 5, 5, 4, 4, 5, 3, 3, 3, 3, 5, 2, 2, 3, 3, 2, 3, 6, 2, 4, 6, 2, 6, 8, 5, 2, 2, 2, 3, 1, 3, 2, 2, 1, 1, 1, 2, 3, 1, 4, 5, 4]
def xz_mrs : List (Option FieldType) := [some .boolean, some .int, none, some .int, some .boolean, some .int, none, some .boolean, some .int, some .int, some .int, none, none, some .int, none, none, some .boolean, some .boolean, some .int, none, some .int, some .int, none, some .int, none, none, none, some .boolean, some .boolean, none, none, some .int, some .long, some .boolean, some .boolean, some .boolean, none, some .boolean, some .int, some .int, none, none, some .boolean, some .boolean, some .boolean, some .int, some .int, some .int, some (.object "java/lang/String"), some .boolean, some .int, some (.object "java/lang/String"), some .int, some .int, none, none, some .boolean, some .int, none, none, some .int, some .int, some .int, some .int, some .int, some .int, some .long, some .int, some .int, some .boolean, some .int, some .int, some .int, some .int, some .int, some .int, some .boolean, some .int, some .int, none, some .boolean, some .boolean, some .boolean, some .boolean, some .boolean, some .boolean, some .int, some .int, some .int, some .int, some .int, some .int, some .long, some .boolean, some .long, some .int, some .int, some .int, some .long, some .long, some .int, some .int, some .int, some .int, some .int, some .int, some .int, some .int, some .int, some .int, some .long, some .int, some .int, some .int, some .int, some .int, some .int, some .boolean, some .int, some .int, some .int, some .int, some .int, none, none, some .int, some .int, some .int, some .int, some .int, some .int, some .int, none, some .int, none, none, some .boolean, some .int, some .int, some .boolean, none, some .boolean, some .boolean, some .boolean, some .boolean, some .boolean, some .boolean, some .boolean, some .boolean, some .boolean, some .boolean, some .int, some .int, some .int, some .int, some .int, some .int, some .long, some .boolean, some .long, some .int, some .int, some .int, some .long, some .int, some .long, some .int, some .int, some .int, some .int, some .int, some .int, some .int, some .int, some .int, some .int, some (.array .int), some .int, some .int, some .int, some .long, some .long, some .int, none, some .int, some .int, some .int, some .int, some .int, some .char, none, some .byte, some .boolean, some .int, some .char, some .int, some .int, none, none, some .long]
def xz_mos : List Nat := [9, 0, 0, 0, 0, 0, 0, 0, 0, 0, 0, 0, 0, 0, 1, 1, 1, 1, 1, 1, 1, 2, 2, 2, 2, 3, 3, 3, 3, 3, 3, 4, 4, 4, 4, 4, 4, 4, 4, 5, 5, 5, 5, 5, 5, 5, 5, 5, 5, 5, 5, 5, 5, 5, 6, 6, 6, 6, 6, 6, 7, 7, 7, 7, 7, 7, 7, 7, 7, 7, 7, 7, 7, 7, 7, 7, 7, 7, 7, 7, 7, 7, 7, 7, 7, 7, 7, 7, 7, 7, 7, 7, 7, 7, 7, 7, 7, 7, 7, 7, 7, 7, 7, 7, 7, 7, 7, 7, 7, 7, 7, 7, 7, 7, 7, 8, 8, 8, 8, 8, 8, 8, 8, 8, 8, 8, 8, 8, 8, 8, 8, 8, 8, 8, 8, 8, 8, 8, 8, 8, 8, 8, 8, 8, 8, 8, 8, 8, 8, 8, 8, 8, 8, 8, 8, 8, 8, 8, 8, 8, 8, 8, 8, 8, 8, 8, 8, 8, 8, 8, 8, 8, 8, 8, 8, 8, 8, 8, 8, 8, 8, 8, 8, 8, 8, 8, 8, 8, 8, 13, 13, 13, 13, 13, 14, 15, 10, 12, 12, 11]
noncomputable def xz_mn (y : Nat) : MethodName := xz_mns.getD y x
noncomputable def xz_mb (y : Nat) : ByteArray := xz_mbs.getD y code
def xz_ml (y : Nat) : Nat := xz_mls.getD y 0
def xz_mr (y : Nat) : Option FieldType := xz_mrs.getD y none
def xz_mo (y : Nat) : Nat := xz_mos.getD y 99
theorem xz_in_TBc {w : Cond} (i : Nat) (h : lw_tbl[i]? = some w) (hg : k2_isCode w = true) : w ∈ xz_TB := xz_in_TB i h (by cases w <;> first | rfl | cases hg)
set_option maxRecDepth 100000 in
theorem xz_cw_1 : Cond.code (xz_mn 1) (xz_mb 1) (xz_ml 1) (xz_mr 1) ∈ xz_TB := xz_in_TBc 358 rfl rfl
set_option maxRecDepth 100000 in
theorem xz_cw_2 : Cond.code (xz_mn 2) (xz_mb 2) (xz_ml 2) (xz_mr 2) ∈ xz_TB := xz_in_TBc 741 rfl rfl
set_option maxRecDepth 100000 in
theorem xz_cw_3 : Cond.code (xz_mn 3) (xz_mb 3) (xz_ml 3) (xz_mr 3) ∈ xz_TB := xz_in_TBc 386 rfl rfl
set_option maxRecDepth 100000 in
theorem xz_cw_4 : Cond.code (xz_mn 4) (xz_mb 4) (xz_ml 4) (xz_mr 4) ∈ xz_TB := xz_in_TBc 370 rfl rfl
set_option maxRecDepth 100000 in
theorem xz_cw_5 : Cond.code (xz_mn 5) (xz_mb 5) (xz_ml 5) (xz_mr 5) ∈ xz_TB := xz_in_TBc 638 rfl rfl
set_option maxRecDepth 100000 in
theorem xz_cw_6 : Cond.code (xz_mn 6) (xz_mb 6) (xz_ml 6) (xz_mr 6) ∈ xz_TB := xz_in_TBc 86 rfl rfl
set_option maxRecDepth 100000 in
theorem xz_cw_7 : Cond.code (xz_mn 7) (xz_mb 7) (xz_ml 7) (xz_mr 7) ∈ xz_TB := xz_in_TBc 430 rfl rfl
set_option maxRecDepth 100000 in
theorem xz_cw_8 : Cond.code (xz_mn 8) (xz_mb 8) (xz_ml 8) (xz_mr 8) ∈ xz_TB := xz_in_TBc 378 rfl rfl
set_option maxRecDepth 100000 in
theorem xz_cw_9 : Cond.code (xz_mn 9) (xz_mb 9) (xz_ml 9) (xz_mr 9) ∈ xz_TB := xz_in_TBc 434 rfl rfl
set_option maxRecDepth 100000 in
theorem xz_cw_10 : Cond.code (xz_mn 10) (xz_mb 10) (xz_ml 10) (xz_mr 10) ∈ xz_TB := xz_in_TBc 366 rfl rfl
set_option maxRecDepth 100000 in
theorem xz_cw_11 : Cond.code (xz_mn 11) (xz_mb 11) (xz_ml 11) (xz_mr 11) ∈ xz_TB := xz_in_TBc 374 rfl rfl
set_option maxRecDepth 100000 in
theorem xz_cw_12 : Cond.code (xz_mn 12) (xz_mb 12) (xz_ml 12) (xz_mr 12) ∈ xz_TB := xz_in_TBc 754 rfl rfl
set_option maxRecDepth 100000 in
theorem xz_cw_13 : Cond.code (xz_mn 13) (xz_mb 13) (xz_ml 13) (xz_mr 13) ∈ xz_TB := xz_in_TBc 426 rfl rfl
set_option maxRecDepth 100000 in
theorem xz_cw_14 : Cond.code (xz_mn 14) (xz_mb 14) (xz_ml 14) (xz_mr 14) ∈ xz_TB := xz_in_TBc 602 rfl rfl
set_option maxRecDepth 100000 in
theorem xz_cw_15 : Cond.code (xz_mn 15) (xz_mb 15) (xz_ml 15) (xz_mr 15) ∈ xz_TB := xz_in_TBc 606 rfl rfl
set_option maxRecDepth 100000 in
theorem xz_cw_16 : Cond.code (xz_mn 16) (xz_mb 16) (xz_ml 16) (xz_mr 16) ∈ xz_TB := xz_in_TBc 617 rfl rfl
set_option maxRecDepth 100000 in
theorem xz_cw_17 : Cond.code (xz_mn 17) (xz_mb 17) (xz_ml 17) (xz_mr 17) ∈ xz_TB := xz_in_TBc 612 rfl rfl
set_option maxRecDepth 100000 in
theorem xz_cw_18 : Cond.code (xz_mn 18) (xz_mb 18) (xz_ml 18) (xz_mr 18) ∈ xz_TB := xz_in_TBc 646 rfl rfl
set_option maxRecDepth 100000 in
theorem xz_cw_19 : Cond.code (xz_mn 19) (xz_mb 19) (xz_ml 19) (xz_mr 19) ∈ xz_TB := xz_in_TBc 197 rfl rfl
set_option maxRecDepth 100000 in
theorem xz_cw_20 : Cond.code (xz_mn 20) (xz_mb 20) (xz_ml 20) (xz_mr 20) ∈ xz_TB := xz_in_TBc 621 rfl rfl
set_option maxRecDepth 100000 in
theorem xz_cw_21 : Cond.code (xz_mn 21) (xz_mb 21) (xz_ml 21) (xz_mr 21) ∈ xz_TB := xz_in_TBc 704 rfl rfl
set_option maxRecDepth 100000 in
theorem xz_cw_22 : Cond.code (xz_mn 22) (xz_mb 22) (xz_ml 22) (xz_mr 22) ∈ xz_TB := xz_in_TBc 745 rfl rfl
set_option maxRecDepth 100000 in
theorem xz_cw_23 : Cond.code (xz_mn 23) (xz_mb 23) (xz_ml 23) (xz_mr 23) ∈ xz_TB := xz_in_TBc 336 rfl rfl
set_option maxRecDepth 100000 in
theorem xz_cw_24 : Cond.code (xz_mn 24) (xz_mb 24) (xz_ml 24) (xz_mr 24) ∈ xz_TB := xz_in_TBc 126 rfl rfl
set_option maxRecDepth 100000 in
theorem xz_cw_25 : Cond.code (xz_mn 25) (xz_mb 25) (xz_ml 25) (xz_mr 25) ∈ xz_TB := xz_in_TBc 737 rfl rfl
set_option maxRecDepth 100000 in
theorem xz_cw_26 : Cond.code (xz_mn 26) (xz_mb 26) (xz_ml 26) (xz_mr 26) ∈ xz_TB := xz_in_TBc 80 rfl rfl
set_option maxRecDepth 100000 in
theorem xz_cw_27 : Cond.code (xz_mn 27) (xz_mb 27) (xz_ml 27) (xz_mr 27) ∈ xz_TB := xz_in_TBc 344 rfl rfl
set_option maxRecDepth 100000 in
theorem xz_cw_28 : Cond.code (xz_mn 28) (xz_mb 28) (xz_ml 28) (xz_mr 28) ∈ xz_TB := xz_in_TBc 348 rfl rfl
set_option maxRecDepth 100000 in
theorem xz_cw_29 : Cond.code (xz_mn 29) (xz_mb 29) (xz_ml 29) (xz_mr 29) ∈ xz_TB := xz_in_TBc 332 rfl rfl
set_option maxRecDepth 100000 in
theorem xz_cw_30 : Cond.code (xz_mn 30) (xz_mb 30) (xz_ml 30) (xz_mr 30) ∈ xz_TB := xz_in_TBc 749 rfl rfl
set_option maxRecDepth 100000 in
theorem xz_cw_31 : Cond.code (xz_mn 31) (xz_mb 31) (xz_ml 31) (xz_mr 31) ∈ xz_TB := xz_in_TBc 800 rfl rfl
set_option maxRecDepth 100000 in
theorem xz_cw_32 : Cond.code (xz_mn 32) (xz_mb 32) (xz_ml 32) (xz_mr 32) ∈ xz_TB := xz_in_TBc 819 rfl rfl
set_option maxRecDepth 100000 in
theorem xz_cw_33 : Cond.code (xz_mn 33) (xz_mb 33) (xz_ml 33) (xz_mr 33) ∈ xz_TB := xz_in_TBc 811 rfl rfl
set_option maxRecDepth 100000 in
theorem xz_cw_34 : Cond.code (xz_mn 34) (xz_mb 34) (xz_ml 34) (xz_mr 34) ∈ xz_TB := xz_in_TBc 831 rfl rfl
set_option maxRecDepth 100000 in
theorem xz_cw_35 : Cond.code (xz_mn 35) (xz_mb 35) (xz_ml 35) (xz_mr 35) ∈ xz_TB := xz_in_TBc 774 rfl rfl
set_option maxRecDepth 100000 in
theorem xz_cw_36 : Cond.code (xz_mn 36) (xz_mb 36) (xz_ml 36) (xz_mr 36) ∈ xz_TB := xz_in_TBc 279 rfl rfl
set_option maxRecDepth 100000 in
theorem xz_cw_37 : Cond.code (xz_mn 37) (xz_mb 37) (xz_ml 37) (xz_mr 37) ∈ xz_TB := xz_in_TBc 770 rfl rfl
set_option maxRecDepth 100000 in
theorem xz_cw_38 : Cond.code (xz_mn 38) (xz_mb 38) (xz_ml 38) (xz_mr 38) ∈ xz_TB := xz_in_TBc 816 rfl rfl
set_option maxRecDepth 100000 in
theorem xz_cw_39 : Cond.code (xz_mn 39) (xz_mb 39) (xz_ml 39) (xz_mr 39) ∈ xz_TB := xz_in_TBc 446 rfl rfl
set_option maxRecDepth 100000 in
theorem xz_cw_40 : Cond.code (xz_mn 40) (xz_mb 40) (xz_ml 40) (xz_mr 40) ∈ xz_TB := xz_in_TBc 547 rfl rfl
set_option maxRecDepth 100000 in
theorem xz_cw_41 : Cond.code (xz_mn 41) (xz_mb 41) (xz_ml 41) (xz_mr 41) ∈ xz_TB := xz_in_TBc 250 rfl rfl
set_option maxRecDepth 100000 in
theorem xz_cw_42 : Cond.code (xz_mn 42) (xz_mb 42) (xz_ml 42) (xz_mr 42) ∈ xz_TB := xz_in_TBc 539 rfl rfl
set_option maxRecDepth 100000 in
theorem xz_cw_43 : Cond.code (xz_mn 43) (xz_mb 43) (xz_ml 43) (xz_mr 43) ∈ xz_TB := xz_in_TBc 469 rfl rfl
set_option maxRecDepth 100000 in
theorem xz_cw_44 : Cond.code (xz_mn 44) (xz_mb 44) (xz_ml 44) (xz_mr 44) ∈ xz_TB := xz_in_TBc 481 rfl rfl
set_option maxRecDepth 100000 in
theorem xz_cw_45 : Cond.code (xz_mn 45) (xz_mb 45) (xz_ml 45) (xz_mr 45) ∈ xz_TB := xz_in_TBc 559 rfl rfl
set_option maxRecDepth 100000 in
theorem xz_cw_46 : Cond.code (xz_mn 46) (xz_mb 46) (xz_ml 46) (xz_mr 46) ∈ xz_TB := xz_in_TBc 454 rfl rfl
set_option maxRecDepth 100000 in
theorem xz_cw_47 : Cond.code (xz_mn 47) (xz_mb 47) (xz_ml 47) (xz_mr 47) ∈ xz_TB := xz_in_TBc 466 rfl rfl
set_option maxRecDepth 100000 in
theorem xz_cw_48 : Cond.code (xz_mn 48) (xz_mb 48) (xz_ml 48) (xz_mr 48) ∈ xz_TB := xz_in_TBc 472 rfl rfl
set_option maxRecDepth 100000 in
theorem xz_cw_49 : Cond.code (xz_mn 49) (xz_mb 49) (xz_ml 49) (xz_mr 49) ∈ xz_TB := xz_in_TBc 458 rfl rfl
set_option maxRecDepth 100000 in
theorem xz_cw_50 : Cond.code (xz_mn 50) (xz_mb 50) (xz_ml 50) (xz_mr 50) ∈ xz_TB := xz_in_TBc 543 rfl rfl
set_option maxRecDepth 100000 in
theorem xz_cw_51 : Cond.code (xz_mn 51) (xz_mb 51) (xz_ml 51) (xz_mr 51) ∈ xz_TB := xz_in_TBc 532 rfl rfl
set_option maxRecDepth 100000 in
theorem xz_cw_52 : Cond.code (xz_mn 52) (xz_mb 52) (xz_ml 52) (xz_mr 52) ∈ xz_TB := xz_in_TBc 555 rfl rfl
set_option maxRecDepth 100000 in
theorem xz_cw_53 : Cond.code (xz_mn 53) (xz_mb 53) (xz_ml 53) (xz_mr 53) ∈ xz_TB := xz_in_TBc 462 rfl rfl
set_option maxRecDepth 100000 in
theorem xz_cw_54 : Cond.code (xz_mn 54) (xz_mb 54) (xz_ml 54) (xz_mr 54) ∈ xz_TB := xz_in_TBc 411 rfl rfl
set_option maxRecDepth 100000 in
theorem xz_cw_55 : Cond.code (xz_mn 55) (xz_mb 55) (xz_ml 55) (xz_mr 55) ∈ xz_TB := xz_in_TBc 207 rfl rfl
set_option maxRecDepth 100000 in
theorem xz_cw_56 : Cond.code (xz_mn 56) (xz_mb 56) (xz_ml 56) (xz_mr 56) ∈ xz_TB := xz_in_TBc 419 rfl rfl
set_option maxRecDepth 100000 in
theorem xz_cw_57 : Cond.code (xz_mn 57) (xz_mb 57) (xz_ml 57) (xz_mr 57) ∈ xz_TB := xz_in_TBc 629 rfl rfl
set_option maxRecDepth 100000 in
theorem xz_cw_58 : Cond.code (xz_mn 58) (xz_mb 58) (xz_ml 58) (xz_mr 58) ∈ xz_TB := xz_in_TBc 406 rfl rfl
set_option maxRecDepth 100000 in
theorem xz_cw_59 : Cond.code (xz_mn 59) (xz_mb 59) (xz_ml 59) (xz_mr 59) ∈ xz_TB := xz_in_TBc 415 rfl rfl
set_option maxRecDepth 100000 in
theorem xz_cw_60 : Cond.code (xz_mn 60) (xz_mb 60) (xz_ml 60) (xz_mr 60) ∈ xz_TB := xz_in_TBc 733 rfl rfl
set_option maxRecDepth 100000 in
theorem xz_cw_61 : Cond.code (xz_mn 61) (xz_mb 61) (xz_ml 61) (xz_mr 61) ∈ xz_TB := xz_in_TBc 633 rfl rfl
set_option maxRecDepth 100000 in
theorem xz_cw_62 : Cond.code (xz_mn 62) (xz_mb 62) (xz_ml 62) (xz_mr 62) ∈ xz_TB := xz_in_TBc 401 rfl rfl
set_option maxRecDepth 100000 in
theorem xz_cw_63 : Cond.code (xz_mn 63) (xz_mb 63) (xz_ml 63) (xz_mr 63) ∈ xz_TB := xz_in_TBc 650 rfl rfl
set_option maxRecDepth 100000 in
theorem xz_cw_64 : Cond.code (xz_mn 64) (xz_mb 64) (xz_ml 64) (xz_mr 64) ∈ xz_TB := xz_in_TBc 758 rfl rfl
set_option maxRecDepth 100000 in
theorem xz_cw_65 : Cond.code (xz_mn 65) (xz_mb 65) (xz_ml 65) (xz_mr 65) ∈ xz_TB := xz_in_TBc 625 rfl rfl
set_option maxRecDepth 100000 in
theorem xz_cw_66 : Cond.code (xz_mn 66) (xz_mb 66) (xz_ml 66) (xz_mr 66) ∈ xz_TB := xz_in_TBc 591 rfl rfl
set_option maxRecDepth 100000 in
theorem xz_cw_67 : Cond.code (xz_mn 67) (xz_mb 67) (xz_ml 67) (xz_mr 67) ∈ xz_TB := xz_in_TBc 792 rfl rfl
set_option maxRecDepth 100000 in
theorem xz_cw_68 : Cond.code (xz_mn 68) (xz_mb 68) (xz_ml 68) (xz_mr 68) ∈ xz_TB := xz_in_TBc 691 rfl rfl
set_option maxRecDepth 100000 in
theorem xz_cw_69 : Cond.code (xz_mn 69) (xz_mb 69) (xz_ml 69) (xz_mr 69) ∈ xz_TB := xz_in_TBc 672 rfl rfl
set_option maxRecDepth 100000 in
theorem xz_cw_70 : Cond.code (xz_mn 70) (xz_mb 70) (xz_ml 70) (xz_mr 70) ∈ xz_TB := xz_in_TBc 394 rfl rfl
set_option maxRecDepth 100000 in
theorem xz_cw_71 : Cond.code (xz_mn 71) (xz_mb 71) (xz_ml 71) (xz_mr 71) ∈ xz_TB := xz_in_TBc 362 rfl rfl
set_option maxRecDepth 100000 in
theorem xz_cw_72 : Cond.code (xz_mn 72) (xz_mb 72) (xz_ml 72) (xz_mr 72) ∈ xz_TB := xz_in_TBc 724 rfl rfl
set_option maxRecDepth 100000 in
theorem xz_cw_73 : Cond.code (xz_mn 73) (xz_mb 73) (xz_ml 73) (xz_mr 73) ∈ xz_TB := xz_in_TBc 728 rfl rfl
set_option maxRecDepth 100000 in
theorem xz_cw_74 : Cond.code (xz_mn 74) (xz_mb 74) (xz_ml 74) (xz_mr 74) ∈ xz_TB := xz_in_TBc 442 rfl rfl
set_option maxRecDepth 100000 in
theorem xz_cw_75 : Cond.code (xz_mn 75) (xz_mb 75) (xz_ml 75) (xz_mr 75) ∈ xz_TB := xz_in_TBc 708 rfl rfl
set_option maxRecDepth 100000 in
theorem xz_cw_76 : Cond.code (xz_mn 76) (xz_mb 76) (xz_ml 76) (xz_mr 76) ∈ xz_TB := xz_in_TBc 437 rfl rfl
set_option maxRecDepth 100000 in
theorem xz_cw_77 : Cond.code (xz_mn 77) (xz_mb 77) (xz_ml 77) (xz_mr 77) ∈ xz_TB := xz_in_TBc 576 rfl rfl
set_option maxRecDepth 100000 in
theorem xz_cw_78 : Cond.code (xz_mn 78) (xz_mb 78) (xz_ml 78) (xz_mr 78) ∈ xz_TB := xz_in_TBc 784 rfl rfl
set_option maxRecDepth 100000 in
theorem xz_cw_79 : Cond.code (xz_mn 79) (xz_mb 79) (xz_ml 79) (xz_mr 79) ∈ xz_TB := xz_in_TBc 72 rfl rfl
set_option maxRecDepth 100000 in
theorem xz_cw_80 : Cond.code (xz_mn 80) (xz_mb 80) (xz_ml 80) (xz_mr 80) ∈ xz_TB := xz_in_TBc 712 rfl rfl
set_option maxRecDepth 100000 in
theorem xz_cw_81 : Cond.code (xz_mn 81) (xz_mb 81) (xz_ml 81) (xz_mr 81) ∈ xz_TB := xz_in_TBc 397 rfl rfl
set_option maxRecDepth 100000 in
theorem xz_cw_82 : Cond.code (xz_mn 82) (xz_mb 82) (xz_ml 82) (xz_mr 82) ∈ xz_TB := xz_in_TBc 583 rfl rfl
set_option maxRecDepth 100000 in
theorem xz_cw_83 : Cond.code (xz_mn 83) (xz_mb 83) (xz_ml 83) (xz_mr 83) ∈ xz_TB := xz_in_TBc 572 rfl rfl
set_option maxRecDepth 100000 in
theorem xz_cw_84 : Cond.code (xz_mn 84) (xz_mb 84) (xz_ml 84) (xz_mr 84) ∈ xz_TB := xz_in_TBc 354 rfl rfl
set_option maxRecDepth 100000 in
theorem xz_cw_85 : Cond.code (xz_mn 85) (xz_mb 85) (xz_ml 85) (xz_mr 85) ∈ xz_TB := xz_in_TBc 351 rfl rfl
set_option maxRecDepth 100000 in
theorem xz_cw_86 : Cond.code (xz_mn 86) (xz_mb 86) (xz_ml 86) (xz_mr 86) ∈ xz_TB := xz_in_TBc 807 rfl rfl
set_option maxRecDepth 100000 in
theorem xz_cw_87 : Cond.code (xz_mn 87) (xz_mb 87) (xz_ml 87) (xz_mr 87) ∈ xz_TB := xz_in_TBc 766 rfl rfl
set_option maxRecDepth 100000 in
theorem xz_cw_88 : Cond.code (xz_mn 88) (xz_mb 88) (xz_ml 88) (xz_mr 88) ∈ xz_TB := xz_in_TBc 779 rfl rfl
set_option maxRecDepth 100000 in
theorem xz_cw_89 : Cond.code (xz_mn 89) (xz_mb 89) (xz_ml 89) (xz_mr 89) ∈ xz_TB := xz_in_TBc 659 rfl rfl
set_option maxRecDepth 100000 in
theorem xz_cw_90 : Cond.code (xz_mn 90) (xz_mb 90) (xz_ml 90) (xz_mr 90) ∈ xz_TB := xz_in_TBc 677 rfl rfl
set_option maxRecDepth 100000 in
theorem xz_cw_91 : Cond.code (xz_mn 91) (xz_mb 91) (xz_ml 91) (xz_mr 91) ∈ xz_TB := xz_in_TBc 762 rfl rfl
set_option maxRecDepth 100000 in
theorem xz_cw_92 : Cond.code (xz_mn 92) (xz_mb 92) (xz_ml 92) (xz_mr 92) ∈ xz_TB := xz_in_TBc 588 rfl rfl
set_option maxRecDepth 100000 in
theorem xz_cw_93 : Cond.code (xz_mn 93) (xz_mb 93) (xz_ml 93) (xz_mr 93) ∈ xz_TB := xz_in_TBc 667 rfl rfl
set_option maxRecDepth 100000 in
theorem xz_cw_94 : Cond.code (xz_mn 94) (xz_mb 94) (xz_ml 94) (xz_mr 94) ∈ xz_TB := xz_in_TBc 720 rfl rfl
set_option maxRecDepth 100000 in
theorem xz_cw_95 : Cond.code (xz_mn 95) (xz_mb 95) (xz_ml 95) (xz_mr 95) ∈ xz_TB := xz_in_TBc 340 rfl rfl
set_option maxRecDepth 100000 in
theorem xz_cw_96 : Cond.code (xz_mn 96) (xz_mb 96) (xz_ml 96) (xz_mr 96) ∈ xz_TB := xz_in_TBc 390 rfl rfl
set_option maxRecDepth 100000 in
theorem xz_cw_97 : Cond.code (xz_mn 97) (xz_mb 97) (xz_ml 97) (xz_mr 97) ∈ xz_TB := xz_in_TBc 551 rfl rfl
set_option maxRecDepth 100000 in
theorem xz_cw_98 : Cond.code (xz_mn 98) (xz_mb 98) (xz_ml 98) (xz_mr 98) ∈ xz_TB := xz_in_TBc 716 rfl rfl
set_option maxRecDepth 100000 in
theorem xz_cw_99 : Cond.code (xz_mn 99) (xz_mb 99) (xz_ml 99) (xz_mr 99) ∈ xz_TB := xz_in_TBc 823 rfl rfl
set_option maxRecDepth 100000 in
theorem xz_cw_100 : Cond.code (xz_mn 100) (xz_mb 100) (xz_ml 100) (xz_mr 100) ∈ xz_TB := xz_in_TBc 328 rfl rfl
set_option maxRecDepth 100000 in
theorem xz_cw_101 : Cond.code (xz_mn 101) (xz_mb 101) (xz_ml 101) (xz_mr 101) ∈ xz_TB := xz_in_TBc 663 rfl rfl
set_option maxRecDepth 100000 in
theorem xz_cw_102 : Cond.code (xz_mn 102) (xz_mb 102) (xz_ml 102) (xz_mr 102) ∈ xz_TB := xz_in_TBc 642 rfl rfl
set_option maxRecDepth 100000 in
theorem xz_cw_103 : Cond.code (xz_mn 103) (xz_mb 103) (xz_ml 103) (xz_mr 103) ∈ xz_TB := xz_in_TBc 598 rfl rfl
set_option maxRecDepth 100000 in
theorem xz_cw_104 : Cond.code (xz_mn 104) (xz_mb 104) (xz_ml 104) (xz_mr 104) ∈ xz_TB := xz_in_TBc 687 rfl rfl
set_option maxRecDepth 100000 in
theorem xz_cw_105 : Cond.code (xz_mn 105) (xz_mb 105) (xz_ml 105) (xz_mr 105) ∈ xz_TB := xz_in_TBc 450 rfl rfl
set_option maxRecDepth 100000 in
theorem xz_cw_106 : Cond.code (xz_mn 106) (xz_mb 106) (xz_ml 106) (xz_mr 106) ∈ xz_TB := xz_in_TBc 700 rfl rfl
set_option maxRecDepth 100000 in
theorem xz_cw_107 : Cond.code (xz_mn 107) (xz_mb 107) (xz_ml 107) (xz_mr 107) ∈ xz_TB := xz_in_TBc 382 rfl rfl
set_option maxRecDepth 100000 in
theorem xz_cw_108 : Cond.code (xz_mn 108) (xz_mb 108) (xz_ml 108) (xz_mr 108) ∈ xz_TB := xz_in_TBc 695 rfl rfl
set_option maxRecDepth 100000 in
theorem xz_cw_109 : Cond.code (xz_mn 109) (xz_mb 109) (xz_ml 109) (xz_mr 109) ∈ xz_TB := xz_in_TBc 827 rfl rfl
set_option maxRecDepth 100000 in
theorem xz_cw_110 : Cond.code (xz_mn 110) (xz_mb 110) (xz_ml 110) (xz_mr 110) ∈ xz_TB := xz_in_TBc 580 rfl rfl
set_option maxRecDepth 100000 in
theorem xz_cw_111 : Cond.code (xz_mn 111) (xz_mb 111) (xz_ml 111) (xz_mr 111) ∈ xz_TB := xz_in_TBc 796 rfl rfl
set_option maxRecDepth 100000 in
theorem xz_cw_112 : Cond.code (xz_mn 112) (xz_mb 112) (xz_ml 112) (xz_mr 112) ∈ xz_TB := xz_in_TBc 655 rfl rfl
set_option maxRecDepth 100000 in
theorem xz_cw_113 : Cond.code (xz_mn 113) (xz_mb 113) (xz_ml 113) (xz_mr 113) ∈ xz_TB := xz_in_TBc 788 rfl rfl
set_option maxRecDepth 100000 in
theorem xz_cw_114 : Cond.code (xz_mn 114) (xz_mb 114) (xz_ml 114) (xz_mr 114) ∈ xz_TB := xz_in_TBc 569 rfl rfl
set_option maxRecDepth 100000 in
theorem xz_cw_115 : Cond.code (xz_mn 115) (xz_mb 115) (xz_ml 115) (xz_mr 115) ∈ xz_TB := xz_in_TBc 1249 rfl rfl
set_option maxRecDepth 100000 in
theorem xz_cw_116 : Cond.code (xz_mn 116) (xz_mb 116) (xz_ml 116) (xz_mr 116) ∈ xz_TB := xz_in_TBc 1170 rfl rfl
set_option maxRecDepth 100000 in
theorem xz_cw_117 : Cond.code (xz_mn 117) (xz_mb 117) (xz_ml 117) (xz_mr 117) ∈ xz_TB := xz_in_TBc 1011 rfl rfl
set_option maxRecDepth 100000 in
theorem xz_cw_118 : Cond.code (xz_mn 118) (xz_mb 118) (xz_ml 118) (xz_mr 118) ∈ xz_TB := xz_in_TBc 1050 rfl rfl
set_option maxRecDepth 100000 in
theorem xz_cw_119 : Cond.code (xz_mn 119) (xz_mb 119) (xz_ml 119) (xz_mr 119) ∈ xz_TB := xz_in_TBc 1182 rfl rfl
set_option maxRecDepth 100000 in
theorem xz_cw_120 : Cond.code (xz_mn 120) (xz_mb 120) (xz_ml 120) (xz_mr 120) ∈ xz_TB := xz_in_TBc 1209 rfl rfl
set_option maxRecDepth 100000 in
theorem xz_cw_121 : Cond.code (xz_mn 121) (xz_mb 121) (xz_ml 121) (xz_mr 121) ∈ xz_TB := xz_in_TBc 1258 rfl rfl
set_option maxRecDepth 100000 in
theorem xz_cw_122 : Cond.code (xz_mn 122) (xz_mb 122) (xz_ml 122) (xz_mr 122) ∈ xz_TB := xz_in_TBc 1165 rfl rfl
set_option maxRecDepth 100000 in
theorem xz_cw_123 : Cond.code (xz_mn 123) (xz_mb 123) (xz_ml 123) (xz_mr 123) ∈ xz_TB := xz_in_TBc 1095 rfl rfl
set_option maxRecDepth 100000 in
theorem xz_cw_124 : Cond.code (xz_mn 124) (xz_mb 124) (xz_ml 124) (xz_mr 124) ∈ xz_TB := xz_in_TBc 1066 rfl rfl
set_option maxRecDepth 100000 in
theorem xz_cw_125 : Cond.code (xz_mn 125) (xz_mb 125) (xz_ml 125) (xz_mr 125) ∈ xz_TB := xz_in_TBc 1285 rfl rfl
set_option maxRecDepth 100000 in
theorem xz_cw_126 : Cond.code (xz_mn 126) (xz_mb 126) (xz_ml 126) (xz_mr 126) ∈ xz_TB := xz_in_TBc 1221 rfl rfl
set_option maxRecDepth 100000 in
theorem xz_cw_127 : Cond.code (xz_mn 127) (xz_mb 127) (xz_ml 127) (xz_mr 127) ∈ xz_TB := xz_in_TBc 1045 rfl rfl
set_option maxRecDepth 100000 in
theorem xz_cw_128 : Cond.code (xz_mn 128) (xz_mb 128) (xz_ml 128) (xz_mr 128) ∈ xz_TB := xz_in_TBc 1126 rfl rfl
set_option maxRecDepth 100000 in
theorem xz_cw_129 : Cond.code (xz_mn 129) (xz_mb 129) (xz_ml 129) (xz_mr 129) ∈ xz_TB := xz_in_TBc 1024 rfl rfl
set_option maxRecDepth 100000 in
theorem xz_cw_130 : Cond.code (xz_mn 130) (xz_mb 130) (xz_ml 130) (xz_mr 130) ∈ xz_TB := xz_in_TBc 1245 rfl rfl
set_option maxRecDepth 100000 in
theorem xz_cw_131 : Cond.code (xz_mn 131) (xz_mb 131) (xz_ml 131) (xz_mr 131) ∈ xz_TB := xz_in_TBc 1086 rfl rfl
set_option maxRecDepth 100000 in
theorem xz_cw_132 : Cond.code (xz_mn 132) (xz_mb 132) (xz_ml 132) (xz_mr 132) ∈ xz_TB := xz_in_TBc 1058 rfl rfl
set_option maxRecDepth 100000 in
theorem xz_cw_133 : Cond.code (xz_mn 133) (xz_mb 133) (xz_ml 133) (xz_mr 133) ∈ xz_TB := xz_in_TBc 1229 rfl rfl
set_option maxRecDepth 100000 in
theorem xz_cw_134 : Cond.code (xz_mn 134) (xz_mb 134) (xz_ml 134) (xz_mr 134) ∈ xz_TB := xz_in_TBc 1062 rfl rfl
set_option maxRecDepth 100000 in
theorem xz_cw_135 : Cond.code (xz_mn 135) (xz_mb 135) (xz_ml 135) (xz_mr 135) ∈ xz_TB := xz_in_TBc 1253 rfl rfl
set_option maxRecDepth 100000 in
theorem xz_cw_136 : Cond.code (xz_mn 136) (xz_mb 136) (xz_ml 136) (xz_mr 136) ∈ xz_TB := xz_in_TBc 1082 rfl rfl
set_option maxRecDepth 100000 in
theorem xz_cw_137 : Cond.code (xz_mn 137) (xz_mb 137) (xz_ml 137) (xz_mr 137) ∈ xz_TB := xz_in_TBc 1142 rfl rfl
set_option maxRecDepth 100000 in
theorem xz_cw_138 : Cond.code (xz_mn 138) (xz_mb 138) (xz_ml 138) (xz_mr 138) ∈ xz_TB := xz_in_TBc 1273 rfl rfl
set_option maxRecDepth 100000 in
theorem xz_cw_139 : Cond.code (xz_mn 139) (xz_mb 139) (xz_ml 139) (xz_mr 139) ∈ xz_TB := xz_in_TBc 1003 rfl rfl
set_option maxRecDepth 100000 in
theorem xz_cw_140 : Cond.code (xz_mn 140) (xz_mb 140) (xz_ml 140) (xz_mr 140) ∈ xz_TB := xz_in_TBc 837 rfl rfl
set_option maxRecDepth 100000 in
theorem xz_cw_141 : Cond.code (xz_mn 141) (xz_mb 141) (xz_ml 141) (xz_mr 141) ∈ xz_TB := xz_in_TBc 1233 rfl rfl
set_option maxRecDepth 100000 in
theorem xz_cw_142 : Cond.code (xz_mn 142) (xz_mb 142) (xz_ml 142) (xz_mr 142) ∈ xz_TB := xz_in_TBc 1074 rfl rfl
set_option maxRecDepth 100000 in
theorem xz_cw_143 : Cond.code (xz_mn 143) (xz_mb 143) (xz_ml 143) (xz_mr 143) ∈ xz_TB := xz_in_TBc 1149 rfl rfl
set_option maxRecDepth 100000 in
theorem xz_cw_144 : Cond.code (xz_mn 144) (xz_mb 144) (xz_ml 144) (xz_mr 144) ∈ xz_TB := xz_in_TBc 1015 rfl rfl
set_option maxRecDepth 100000 in
theorem xz_cw_145 : Cond.code (xz_mn 145) (xz_mb 145) (xz_ml 145) (xz_mr 145) ∈ xz_TB := xz_in_TBc 1138 rfl rfl
set_option maxRecDepth 100000 in
theorem xz_cw_146 : Cond.code (xz_mn 146) (xz_mb 146) (xz_ml 146) (xz_mr 146) ∈ xz_TB := xz_in_TBc 1213 rfl rfl
set_option maxRecDepth 100000 in
theorem xz_cw_147 : Cond.code (xz_mn 147) (xz_mb 147) (xz_ml 147) (xz_mr 147) ∈ xz_TB := xz_in_TBc 1269 rfl rfl
set_option maxRecDepth 100000 in
theorem xz_cw_148 : Cond.code (xz_mn 148) (xz_mb 148) (xz_ml 148) (xz_mr 148) ∈ xz_TB := xz_in_TBc 1194 rfl rfl
set_option maxRecDepth 100000 in
theorem xz_cw_149 : Cond.code (xz_mn 149) (xz_mb 149) (xz_ml 149) (xz_mr 149) ∈ xz_TB := xz_in_TBc 1018 rfl rfl
set_option maxRecDepth 100000 in
theorem xz_cw_150 : Cond.code (xz_mn 150) (xz_mb 150) (xz_ml 150) (xz_mr 150) ∈ xz_TB := xz_in_TBc 1110 rfl rfl
set_option maxRecDepth 100000 in
theorem xz_cw_151 : Cond.code (xz_mn 151) (xz_mb 151) (xz_ml 151) (xz_mr 151) ∈ xz_TB := xz_in_TBc 1295 rfl rfl
set_option maxRecDepth 100000 in
theorem xz_cw_152 : Cond.code (xz_mn 152) (xz_mb 152) (xz_ml 152) (xz_mr 152) ∈ xz_TB := xz_in_TBc 1266 rfl rfl
set_option maxRecDepth 100000 in
theorem xz_cw_153 : Cond.code (xz_mn 153) (xz_mb 153) (xz_ml 153) (xz_mr 153) ∈ xz_TB := xz_in_TBc 1190 rfl rfl
set_option maxRecDepth 100000 in
theorem xz_cw_154 : Cond.code (xz_mn 154) (xz_mb 154) (xz_ml 154) (xz_mr 154) ∈ xz_TB := xz_in_TBc 1206 rfl rfl
set_option maxRecDepth 100000 in
theorem xz_cw_155 : Cond.code (xz_mn 155) (xz_mb 155) (xz_ml 155) (xz_mr 155) ∈ xz_TB := xz_in_TBc 1032 rfl rfl
set_option maxRecDepth 100000 in
theorem xz_cw_156 : Cond.code (xz_mn 156) (xz_mb 156) (xz_ml 156) (xz_mr 156) ∈ xz_TB := xz_in_TBc 1262 rfl rfl
set_option maxRecDepth 100000 in
theorem xz_cw_157 : Cond.code (xz_mn 157) (xz_mb 157) (xz_ml 157) (xz_mr 157) ∈ xz_TB := xz_in_TBc 1153 rfl rfl
set_option maxRecDepth 100000 in
theorem xz_cw_158 : Cond.code (xz_mn 158) (xz_mb 158) (xz_ml 158) (xz_mr 158) ∈ xz_TB := xz_in_TBc 1202 rfl rfl
set_option maxRecDepth 100000 in
theorem xz_cw_159 : Cond.code (xz_mn 159) (xz_mb 159) (xz_ml 159) (xz_mr 159) ∈ xz_TB := xz_in_TBc 1241 rfl rfl
set_option maxRecDepth 100000 in
theorem xz_cw_160 : Cond.code (xz_mn 160) (xz_mb 160) (xz_ml 160) (xz_mr 160) ∈ xz_TB := xz_in_TBc 1007 rfl rfl
set_option maxRecDepth 100000 in
theorem xz_cw_161 : Cond.code (xz_mn 161) (xz_mb 161) (xz_ml 161) (xz_mr 161) ∈ xz_TB := xz_in_TBc 1040 rfl rfl
set_option maxRecDepth 100000 in
theorem xz_cw_162 : Cond.code (xz_mn 162) (xz_mb 162) (xz_ml 162) (xz_mr 162) ∈ xz_TB := xz_in_TBc 1120 rfl rfl
set_option maxRecDepth 100000 in
theorem xz_cw_163 : Cond.code (xz_mn 163) (xz_mb 163) (xz_ml 163) (xz_mr 163) ∈ xz_TB := xz_in_TBc 1237 rfl rfl
set_option maxRecDepth 100000 in
theorem xz_cw_164 : Cond.code (xz_mn 164) (xz_mb 164) (xz_ml 164) (xz_mr 164) ∈ xz_TB := xz_in_TBc 1079 rfl rfl
set_option maxRecDepth 100000 in
theorem xz_cw_165 : Cond.code (xz_mn 165) (xz_mb 165) (xz_ml 165) (xz_mr 165) ∈ xz_TB := xz_in_TBc 1303 rfl rfl
set_option maxRecDepth 100000 in
theorem xz_cw_166 : Cond.code (xz_mn 166) (xz_mb 166) (xz_ml 166) (xz_mr 166) ∈ xz_TB := xz_in_TBc 998 rfl rfl
set_option maxRecDepth 100000 in
theorem xz_cw_167 : Cond.code (xz_mn 167) (xz_mb 167) (xz_ml 167) (xz_mr 167) ∈ xz_TB := xz_in_TBc 1198 rfl rfl
set_option maxRecDepth 100000 in
theorem xz_cw_168 : Cond.code (xz_mn 168) (xz_mb 168) (xz_ml 168) (xz_mr 168) ∈ xz_TB := xz_in_TBc 1174 rfl rfl
set_option maxRecDepth 100000 in
theorem xz_cw_169 : Cond.code (xz_mn 169) (xz_mb 169) (xz_ml 169) (xz_mr 169) ∈ xz_TB := xz_in_TBc 1157 rfl rfl
set_option maxRecDepth 100000 in
theorem xz_cw_170 : Cond.code (xz_mn 170) (xz_mb 170) (xz_ml 170) (xz_mr 170) ∈ xz_TB := xz_in_TBc 1161 rfl rfl
set_option maxRecDepth 100000 in
theorem xz_cw_171 : Cond.code (xz_mn 171) (xz_mb 171) (xz_ml 171) (xz_mr 171) ∈ xz_TB := xz_in_TBc 1217 rfl rfl
set_option maxRecDepth 100000 in
theorem xz_cw_172 : Cond.code (xz_mn 172) (xz_mb 172) (xz_ml 172) (xz_mr 172) ∈ xz_TB := xz_in_TBc 1091 rfl rfl
set_option maxRecDepth 100000 in
theorem xz_cw_173 : Cond.code (xz_mn 173) (xz_mb 173) (xz_ml 173) (xz_mr 173) ∈ xz_TB := xz_in_TBc 1028 rfl rfl
set_option maxRecDepth 100000 in
theorem xz_cw_174 : Cond.code (xz_mn 174) (xz_mb 174) (xz_ml 174) (xz_mr 174) ∈ xz_TB := xz_in_TBc 1299 rfl rfl
set_option maxRecDepth 100000 in
theorem xz_cw_175 : Cond.code (xz_mn 175) (xz_mb 175) (xz_ml 175) (xz_mr 175) ∈ xz_TB := xz_in_TBc 1036 rfl rfl
set_option maxRecDepth 100000 in
theorem xz_cw_176 : Cond.code (xz_mn 176) (xz_mb 176) (xz_ml 176) (xz_mr 176) ∈ xz_TB := xz_in_TBc 1277 rfl rfl
set_option maxRecDepth 100000 in
theorem xz_cw_177 : Cond.code (xz_mn 177) (xz_mb 177) (xz_ml 177) (xz_mr 177) ∈ xz_TB := xz_in_TBc 1225 rfl rfl
set_option maxRecDepth 100000 in
theorem xz_cw_178 : Cond.code (xz_mn 178) (xz_mb 178) (xz_ml 178) (xz_mr 178) ∈ xz_TB := xz_in_TBc 1307 rfl rfl
set_option maxRecDepth 100000 in
theorem xz_cw_179 : Cond.code (xz_mn 179) (xz_mb 179) (xz_ml 179) (xz_mr 179) ∈ xz_TB := xz_in_TBc 1103 rfl rfl
set_option maxRecDepth 100000 in
theorem xz_cw_180 : Cond.code (xz_mn 180) (xz_mb 180) (xz_ml 180) (xz_mr 180) ∈ xz_TB := xz_in_TBc 1070 rfl rfl
set_option maxRecDepth 100000 in
theorem xz_cw_181 : Cond.code (xz_mn 181) (xz_mb 181) (xz_ml 181) (xz_mr 181) ∈ xz_TB := xz_in_TBc 1146 rfl rfl
set_option maxRecDepth 100000 in
theorem xz_cw_182 : Cond.code (xz_mn 182) (xz_mb 182) (xz_ml 182) (xz_mr 182) ∈ xz_TB := xz_in_TBc 1289 rfl rfl
set_option maxRecDepth 100000 in
theorem xz_cw_183 : Cond.code (xz_mn 183) (xz_mb 183) (xz_ml 183) (xz_mr 183) ∈ xz_TB := xz_in_TBc 1178 rfl rfl
set_option maxRecDepth 100000 in
theorem xz_cw_184 : Cond.code (xz_mn 184) (xz_mb 184) (xz_ml 184) (xz_mr 184) ∈ xz_TB := xz_in_TBc 1186 rfl rfl
set_option maxRecDepth 100000 in
theorem xz_cw_185 : Cond.code (xz_mn 185) (xz_mb 185) (xz_ml 185) (xz_mr 185) ∈ xz_TB := xz_in_TBc 1281 rfl rfl
set_option maxRecDepth 100000 in
theorem xz_cw_186 : Cond.code (xz_mn 186) (xz_mb 186) (xz_ml 186) (xz_mr 186) ∈ xz_TB := xz_in_TBc 1135 rfl rfl
set_option maxRecDepth 100000 in
theorem xz_cw_187 : Cond.code (xz_mn 187) (xz_mb 187) (xz_ml 187) (xz_mr 187) ∈ xz_TB := xz_in_TBc 1054 rfl rfl
set_option maxRecDepth 100000 in
theorem xz_cw_188 : Cond.code (xz_mn 188) (xz_mb 188) (xz_ml 188) (xz_mr 188) ∈ xz_TB := xz_in_TBc 1099 rfl rfl
set_option maxRecDepth 100000 in
theorem xz_cw_189 : Cond.code (xz_mn 189) (xz_mb 189) (xz_ml 189) (xz_mr 189) ∈ xz_TB := xz_in_TBc 495 rfl rfl
set_option maxRecDepth 100000 in
theorem xz_cw_190 : Cond.code (xz_mn 190) (xz_mb 190) (xz_ml 190) (xz_mr 190) ∈ xz_TB := xz_in_TBc 505 rfl rfl
set_option maxRecDepth 100000 in
theorem xz_cw_191 : Cond.code (xz_mn 191) (xz_mb 191) (xz_ml 191) (xz_mr 191) ∈ xz_TB := xz_in_TBc 489 rfl rfl
set_option maxRecDepth 100000 in
theorem xz_cw_192 : Cond.code (xz_mn 192) (xz_mb 192) (xz_ml 192) (xz_mr 192) ∈ xz_TB := xz_in_TBc 499 rfl rfl
set_option maxRecDepth 100000 in
theorem xz_cw_193 : Cond.code (xz_mn 193) (xz_mb 193) (xz_ml 193) (xz_mr 193) ∈ xz_TB := xz_in_TBc 485 rfl rfl
set_option maxRecDepth 100000 in
theorem xz_cw_194 : Cond.code (xz_mn 194) (xz_mb 194) (xz_ml 194) (xz_mr 194) ∈ xz_TB := xz_in_TBc 502 rfl rfl
set_option maxRecDepth 100000 in
theorem xz_cw_195 : Cond.code (xz_mn 195) (xz_mb 195) (xz_ml 195) (xz_mr 195) ∈ xz_TB := xz_in_TBc 510 rfl rfl
set_option maxRecDepth 100000 in
theorem xz_cw_196 : Cond.code (xz_mn 196) (xz_mb 196) (xz_ml 196) (xz_mr 196) ∈ xz_TB := xz_in_TBc 680 rfl rfl
set_option maxRecDepth 100000 in
theorem xz_cw_197 : Cond.code (xz_mn 197) (xz_mb 197) (xz_ml 197) (xz_mr 197) ∈ xz_TB := xz_in_TBc 283 rfl rfl
set_option maxRecDepth 100000 in
theorem xz_cw_198 : Cond.code (xz_mn 198) (xz_mb 198) (xz_ml 198) (xz_mr 198) ∈ xz_TB := xz_in_TBc 803 rfl rfl
set_option maxRecDepth 100000 in
theorem xz_cw_199 : Cond.code (xz_mn 199) (xz_mb 199) (xz_ml 199) (xz_mr 199) ∈ xz_TB := xz_in_TBc 594 rfl rfl
set_option maxRecDepth 100000 in
theorem xz_cwl : ∀ y ∈ ([1, 2, 3, 4, 5, 6, 7, 8, 9, 10, 11, 12, 13, 14, 15, 16, 17, 18, 19, 20, 21, 22, 23, 24, 25, 26, 27, 28, 29, 30, 31, 32, 33, 34, 35, 36, 37, 38, 39, 40, 41, 42, 43, 44, 45, 46, 47, 48, 49, 50, 51, 52, 53, 54, 55, 56, 57, 58, 59, 60, 61, 62, 63, 64, 65, 66, 67, 68, 69, 70, 71, 72, 73, 74, 75, 76, 77, 78, 79, 80, 81, 82, 83, 84, 85, 86, 87, 88, 89, 90, 91, 92, 93, 94, 95, 96, 97, 98, 99, 100, 101, 102, 103, 104, 105, 106, 107, 108, 109, 110, 111, 112, 113, 114, 115, 116, 117, 118, 119, 120, 121, 122, 123, 124, 125, 126, 127, 128, 129, 130, 131, 132, 133, 134, 135, 136, 137, 138, 139, 140, 141, 142, 143, 144, 145, 146, 147, 148, 149, 150, 151, 152, 153, 154, 155, 156, 157, 158, 159, 160, 161, 162, 163, 164, 165, 166, 167, 168, 169, 170, 171, 172, 173, 174, 175, 176, 177, 178, 179, 180, 181, 182, 183, 184, 185, 186, 187, 188, 189, 190, 191, 192, 193, 194, 195, 196, 197, 198, 199] : List Nat), Cond.code (xz_mn y) (xz_mb y) (xz_ml y) (xz_mr y) ∈ xz_TB := List.forall_mem_cons.mpr ⟨xz_cw_1, List.forall_mem_cons.mpr ⟨xz_cw_2, List.forall_mem_cons.mpr ⟨xz_cw_3, List.forall_mem_cons.mpr ⟨xz_cw_4, List.forall_mem_cons.mpr ⟨xz_cw_5, List.forall_mem_cons.mpr ⟨xz_cw_6, List.forall_mem_cons.mpr ⟨xz_cw_7, List.forall_mem_cons.mpr ⟨xz_cw_8, List.forall_mem_cons.mpr ⟨xz_cw_9, List.forall_mem_cons.mpr ⟨xz_cw_10, List.forall_mem_cons.mpr ⟨xz_cw_11, List.forall_mem_cons.mpr ⟨xz_cw_12, List.forall_mem_cons.mpr ⟨xz_cw_13, List.forall_mem_cons.mpr ⟨xz_cw_14, List.forall_mem_cons.mpr ⟨xz_cw_15, List.forall_mem_cons.mpr ⟨xz_cw_16, List.forall_mem_cons.mpr ⟨xz_cw_17, List.forall_mem_cons.mpr ⟨xz_cw_18, List.forall_mem_cons.mpr ⟨xz_cw_19, List.forall_mem_cons.mpr ⟨xz_cw_20, List.forall_mem_cons.mpr ⟨xz_cw_21, List.forall_mem_cons.mpr ⟨xz_cw_22, List.forall_mem_cons.mpr ⟨xz_cw_23, List.forall_mem_cons.mpr ⟨xz_cw_24, List.forall_mem_cons.mpr ⟨xz_cw_25, List.forall_mem_cons.mpr ⟨xz_cw_26, List.forall_mem_cons.mpr ⟨xz_cw_27, List.forall_mem_cons.mpr ⟨xz_cw_28, List.forall_mem_cons.mpr ⟨xz_cw_29, List.forall_mem_cons.mpr ⟨xz_cw_30, List.forall_mem_cons.mpr ⟨xz_cw_31, List.forall_mem_cons.mpr ⟨xz_cw_32, List.forall_mem_cons.mpr ⟨xz_cw_33, List.forall_mem_cons.mpr ⟨xz_cw_34, List.forall_mem_cons.mpr ⟨xz_cw_35, List.forall_mem_cons.mpr ⟨xz_cw_36, List.forall_mem_cons.mpr ⟨xz_cw_37, List.forall_mem_cons.mpr ⟨xz_cw_38, List.forall_mem_cons.mpr ⟨xz_cw_39, List.forall_mem_cons.mpr ⟨xz_cw_40, List.forall_mem_cons.mpr ⟨xz_cw_41, List.forall_mem_cons.mpr ⟨xz_cw_42, List.forall_mem_cons.mpr ⟨xz_cw_43, List.forall_mem_cons.mpr ⟨xz_cw_44, List.forall_mem_cons.mpr ⟨xz_cw_45, List.forall_mem_cons.mpr ⟨xz_cw_46, List.forall_mem_cons.mpr ⟨xz_cw_47, List.forall_mem_cons.mpr ⟨xz_cw_48, List.forall_mem_cons.mpr ⟨xz_cw_49, List.forall_mem_cons.mpr ⟨xz_cw_50, List.forall_mem_cons.mpr ⟨xz_cw_51, List.forall_mem_cons.mpr ⟨xz_cw_52, List.forall_mem_cons.mpr ⟨xz_cw_53, List.forall_mem_cons.mpr ⟨xz_cw_54, List.forall_mem_cons.mpr ⟨xz_cw_55, List.forall_mem_cons.mpr ⟨xz_cw_56, List.forall_mem_cons.mpr ⟨xz_cw_57, List.forall_mem_cons.mpr ⟨xz_cw_58, List.forall_mem_cons.mpr ⟨xz_cw_59, List.forall_mem_cons.mpr ⟨xz_cw_60, List.forall_mem_cons.mpr ⟨xz_cw_61, List.forall_mem_cons.mpr ⟨xz_cw_62, List.forall_mem_cons.mpr ⟨xz_cw_63, List.forall_mem_cons.mpr ⟨xz_cw_64, List.forall_mem_cons.mpr ⟨xz_cw_65, List.forall_mem_cons.mpr ⟨xz_cw_66, List.forall_mem_cons.mpr ⟨xz_cw_67, List.forall_mem_cons.mpr ⟨xz_cw_68, List.forall_mem_cons.mpr ⟨xz_cw_69, List.forall_mem_cons.mpr ⟨xz_cw_70, List.forall_mem_cons.mpr ⟨xz_cw_71, List.forall_mem_cons.mpr ⟨xz_cw_72, List.forall_mem_cons.mpr ⟨xz_cw_73, List.forall_mem_cons.mpr ⟨xz_cw_74, List.forall_mem_cons.mpr ⟨xz_cw_75, List.forall_mem_cons.mpr ⟨xz_cw_76, List.forall_mem_cons.mpr ⟨xz_cw_77, List.forall_mem_cons.mpr ⟨xz_cw_78, List.forall_mem_cons.mpr ⟨xz_cw_79, List.forall_mem_cons.mpr ⟨xz_cw_80, List.forall_mem_cons.mpr ⟨xz_cw_81, List.forall_mem_cons.mpr ⟨xz_cw_82, List.forall_mem_cons.mpr ⟨xz_cw_83, List.forall_mem_cons.mpr ⟨xz_cw_84, List.forall_mem_cons.mpr ⟨xz_cw_85, List.forall_mem_cons.mpr ⟨xz_cw_86, List.forall_mem_cons.mpr ⟨xz_cw_87, List.forall_mem_cons.mpr ⟨xz_cw_88, List.forall_mem_cons.mpr ⟨xz_cw_89, List.forall_mem_cons.mpr ⟨xz_cw_90, List.forall_mem_cons.mpr ⟨xz_cw_91, List.forall_mem_cons.mpr ⟨xz_cw_92, List.forall_mem_cons.mpr ⟨xz_cw_93, List.forall_mem_cons.mpr ⟨xz_cw_94, List.forall_mem_cons.mpr ⟨xz_cw_95, List.forall_mem_cons.mpr ⟨xz_cw_96, List.forall_mem_cons.mpr ⟨xz_cw_97, List.forall_mem_cons.mpr ⟨xz_cw_98, List.forall_mem_cons.mpr ⟨xz_cw_99, List.forall_mem_cons.mpr ⟨xz_cw_100, List.forall_mem_cons.mpr ⟨xz_cw_101, List.forall_mem_cons.mpr ⟨xz_cw_102, List.forall_mem_cons.mpr ⟨xz_cw_103, List.forall_mem_cons.mpr ⟨xz_cw_104, List.forall_mem_cons.mpr ⟨xz_cw_105, List.forall_mem_cons.mpr ⟨xz_cw_106, List.forall_mem_cons.mpr ⟨xz_cw_107, List.forall_mem_cons.mpr ⟨xz_cw_108, List.forall_mem_cons.mpr ⟨xz_cw_109, List.forall_mem_cons.mpr ⟨xz_cw_110, List.forall_mem_cons.mpr ⟨xz_cw_111, List.forall_mem_cons.mpr ⟨xz_cw_112, List.forall_mem_cons.mpr ⟨xz_cw_113, List.forall_mem_cons.mpr ⟨xz_cw_114, List.forall_mem_cons.mpr ⟨xz_cw_115, List.forall_mem_cons.mpr ⟨xz_cw_116, List.forall_mem_cons.mpr ⟨xz_cw_117, List.forall_mem_cons.mpr ⟨xz_cw_118, List.forall_mem_cons.mpr ⟨xz_cw_119, List.forall_mem_cons.mpr ⟨xz_cw_120, List.forall_mem_cons.mpr ⟨xz_cw_121, List.forall_mem_cons.mpr ⟨xz_cw_122, List.forall_mem_cons.mpr ⟨xz_cw_123, List.forall_mem_cons.mpr ⟨xz_cw_124, List.forall_mem_cons.mpr ⟨xz_cw_125, List.forall_mem_cons.mpr ⟨xz_cw_126, List.forall_mem_cons.mpr ⟨xz_cw_127, List.forall_mem_cons.mpr ⟨xz_cw_128, List.forall_mem_cons.mpr ⟨xz_cw_129, List.forall_mem_cons.mpr ⟨xz_cw_130, List.forall_mem_cons.mpr ⟨xz_cw_131, List.forall_mem_cons.mpr ⟨xz_cw_132, List.forall_mem_cons.mpr ⟨xz_cw_133, List.forall_mem_cons.mpr ⟨xz_cw_134, List.forall_mem_cons.mpr ⟨xz_cw_135, List.forall_mem_cons.mpr ⟨xz_cw_136, List.forall_mem_cons.mpr ⟨xz_cw_137, List.forall_mem_cons.mpr ⟨xz_cw_138, List.forall_mem_cons.mpr ⟨xz_cw_139, List.forall_mem_cons.mpr ⟨xz_cw_140, List.forall_mem_cons.mpr ⟨xz_cw_141, List.forall_mem_cons.mpr ⟨xz_cw_142, List.forall_mem_cons.mpr ⟨xz_cw_143, List.forall_mem_cons.mpr ⟨xz_cw_144, List.forall_mem_cons.mpr ⟨xz_cw_145, List.forall_mem_cons.mpr ⟨xz_cw_146, List.forall_mem_cons.mpr ⟨xz_cw_147, List.forall_mem_cons.mpr ⟨xz_cw_148, List.forall_mem_cons.mpr ⟨xz_cw_149, List.forall_mem_cons.mpr ⟨xz_cw_150, List.forall_mem_cons.mpr ⟨xz_cw_151, List.forall_mem_cons.mpr ⟨xz_cw_152, List.forall_mem_cons.mpr ⟨xz_cw_153, List.forall_mem_cons.mpr ⟨xz_cw_154, List.forall_mem_cons.mpr ⟨xz_cw_155, List.forall_mem_cons.mpr ⟨xz_cw_156, List.forall_mem_cons.mpr ⟨xz_cw_157, List.forall_mem_cons.mpr ⟨xz_cw_158, List.forall_mem_cons.mpr ⟨xz_cw_159, List.forall_mem_cons.mpr ⟨xz_cw_160, List.forall_mem_cons.mpr ⟨xz_cw_161, List.forall_mem_cons.mpr ⟨xz_cw_162, List.forall_mem_cons.mpr ⟨xz_cw_163, List.forall_mem_cons.mpr ⟨xz_cw_164, List.forall_mem_cons.mpr ⟨xz_cw_165, List.forall_mem_cons.mpr ⟨xz_cw_166, List.forall_mem_cons.mpr ⟨xz_cw_167, List.forall_mem_cons.mpr ⟨xz_cw_168, List.forall_mem_cons.mpr ⟨xz_cw_169, List.forall_mem_cons.mpr ⟨xz_cw_170, List.forall_mem_cons.mpr ⟨xz_cw_171, List.forall_mem_cons.mpr ⟨xz_cw_172, List.forall_mem_cons.mpr ⟨xz_cw_173, List.forall_mem_cons.mpr ⟨xz_cw_174, List.forall_mem_cons.mpr ⟨xz_cw_175, List.forall_mem_cons.mpr ⟨xz_cw_176, List.forall_mem_cons.mpr ⟨xz_cw_177, List.forall_mem_cons.mpr ⟨xz_cw_178, List.forall_mem_cons.mpr ⟨xz_cw_179, List.forall_mem_cons.mpr ⟨xz_cw_180, List.forall_mem_cons.mpr ⟨xz_cw_181, List.forall_mem_cons.mpr ⟨xz_cw_182, List.forall_mem_cons.mpr ⟨xz_cw_183, List.forall_mem_cons.mpr ⟨xz_cw_184, List.forall_mem_cons.mpr ⟨xz_cw_185, List.forall_mem_cons.mpr ⟨xz_cw_186, List.forall_mem_cons.mpr ⟨xz_cw_187, List.forall_mem_cons.mpr ⟨xz_cw_188, List.forall_mem_cons.mpr ⟨xz_cw_189, List.forall_mem_cons.mpr ⟨xz_cw_190, List.forall_mem_cons.mpr ⟨xz_cw_191, List.forall_mem_cons.mpr ⟨xz_cw_192, List.forall_mem_cons.mpr ⟨xz_cw_193, List.forall_mem_cons.mpr ⟨xz_cw_194, List.forall_mem_cons.mpr ⟨xz_cw_195, List.forall_mem_cons.mpr ⟨xz_cw_196, List.forall_mem_cons.mpr ⟨xz_cw_197, List.forall_mem_cons.mpr ⟨xz_cw_198, List.forall_mem_cons.mpr ⟨xz_cw_199, fun _ h => absurd h List.not_mem_nil⟩⟩⟩⟩⟩⟩⟩⟩⟩⟩⟩⟩⟩⟩⟩⟩⟩⟩⟩⟩⟩⟩⟩⟩⟩⟩⟩⟩⟩⟩⟩⟩⟩⟩⟩⟩⟩⟩⟩⟩⟩⟩⟩⟩⟩⟩⟩⟩⟩⟩⟩⟩⟩⟩⟩⟩⟩⟩⟩⟩⟩⟩⟩⟩⟩⟩⟩⟩⟩⟩⟩⟩⟩⟩⟩⟩⟩⟩⟩⟩⟩⟩⟩⟩⟩⟩⟩⟩⟩⟩⟩⟩⟩⟩⟩⟩⟩⟩⟩⟩⟩⟩⟩⟩⟩⟩⟩⟩⟩⟩⟩⟩⟩⟩⟩⟩⟩⟩⟩⟩⟩⟩⟩⟩⟩⟩⟩⟩⟩⟩⟩⟩⟩⟩⟩⟩⟩⟩⟩⟩⟩⟩⟩⟩⟩⟩⟩⟩⟩⟩⟩⟩⟩⟩⟩⟩⟩⟩⟩⟩⟩⟩⟩⟩⟩⟩⟩⟩⟩⟩⟩⟩⟩⟩⟩⟩⟩⟩⟩⟩⟩⟩⟩⟩⟩⟩⟩⟩⟩⟩⟩⟩⟩⟩⟩⟩⟩⟩⟩
theorem xz_cw (y : Nat) (h0 : 0 < y) (h : y < 200) : Cond.code (xz_mn y) (xz_mb y) (xz_ml y) (xz_mr y) ∈ xz_TB := by
  refine xz_cwl y ?_
  have e : ([1, 2, 3, 4, 5, 6, 7, 8, 9, 10, 11, 12, 13, 14, 15, 16, 17, 18, 19, 20, 21, 22, 23, 24, 25, 26, 27, 28, 29, 30, 31, 32, 33, 34, 35, 36, 37, 38, 39, 40, 41, 42, 43, 44, 45, 46, 47, 48, 49, 50, 51, 52, 53, 54, 55, 56, 57, 58, 59, 60, 61, 62, 63, 64, 65, 66, 67, 68, 69, 70, 71, 72, 73, 74, 75, 76, 77, 78, 79, 80, 81, 82, 83, 84, 85, 86, 87, 88, 89, 90, 91, 92, 93, 94, 95, 96, 97, 98, 99, 100, 101, 102, 103, 104, 105, 106, 107, 108, 109, 110, 111, 112, 113, 114, 115, 116, 117, 118, 119, 120, 121, 122, 123, 124, 125, 126, 127, 128, 129, 130, 131, 132, 133, 134, 135, 136, 137, 138, 139, 140, 141, 142, 143, 144, 145, 146, 147, 148, 149, 150, 151, 152, 153, 154, 155, 156, 157, 158, 159, 160, 161, 162, 163, 164, 165, 166, 167, 168, 169, 170, 171, 172, 173, 174, 175, 176, 177, 178, 179, 180, 181, 182, 183, 184, 185, 186, 187, 188, 189, 190, 191, 192, 193, 194, 195, 196, 197, 198, 199] : List Nat) = List.range' 1 199 := by decide +kernel
  rw [e, List.mem_range'_1]
  omega
