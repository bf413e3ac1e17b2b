def RX0 : String := "HailLeague$Cannons"
def TX0 : u_T := fun k => match k with
  | 0 => ("HailLeague$Cannons", "place", "[I", true)
  | 1 => ("HailLeague$Cannons", "range", "[I", true)
  | 2 => ("HailLeague$Cannons", "powder", "[I", true)
  | 3 => ("HailLeague$Cannons", "shots", "[I", true)
  | _ => ("HailLeague$Cannons", "count", "I", false)
def tyX0 : Nat → FieldType := fun k => match k with
  | 0 => .array .int
  | 1 => .array .int
  | 2 => .array .int
  | 3 => .array .int
  | _ => .int
abbrev wsX00 : List Cond := u_ws RX0 TX0 5
theorem nmX0 : ∀ a, a < 5 → ∀ b, b < 5 → a ≠ b → (TX0 a).2.1 ≠ (TX0 b).2.1 := by decide +kernel
theorem tyX0_ok : ∀ k, k < 5 → parseFieldDescriptor (TX0 k).2.2.1 = some (tyX0 k) := by decide +kernel
abbrev cX0_init : ByteArray := prog_2_method_1_code
def yX0_init : MethodName := ⟨RX0, "<init>", "()V"⟩
abbrev cX0_add : ByteArray := prog_2_method_2_code
def yX0_add : MethodName := ⟨RX0, "add", "(III)I"⟩
abbrev cX0_addPowder : ByteArray := prog_2_method_3_code
def yX0_addPowder : MethodName := ⟨RX0, "addPowder", "(II)I"⟩
abbrev cX0_fact : ByteArray := prog_2_method_4_code
def yX0_fact : MethodName := ⟨RX0, "fact", "(IILHailLeague$Clouds;)I"⟩
abbrev cX0_target : ByteArray := prog_2_method_5_code
def yX0_target : MethodName := ⟨RX0, "target", "(ILHailLeague$Clouds;)I"⟩
abbrev cX0_shoot : ByteArray := prog_2_method_6_code
def yX0_shoot : MethodName := ⟨RX0, "shoot", "(LHailLeague$Clouds;LHailLeague$Vineyards;)V"⟩
abbrev cX0_sumOfShots : ByteArray := prog_2_method_7_code
def yX0_sumOfShots : MethodName := ⟨RX0, "sumOfShots", "()I"⟩
abbrev cX0_copyFrom : ByteArray := prog_2_method_8_code
def yX0_copyFrom : MethodName := ⟨RX0, "copyFrom", "(LHailLeague$Cannons;)V"⟩
def RX1 : String := "HailLeague$Clouds"
def TX1 : u_T := fun k => match k with
  | 0 => ("HailLeague$Clouds", "place", "[I", true)
  | 1 => ("HailLeague$Clouds", "drift", "[I", true)
  | 2 => ("HailLeague$Clouds", "hail", "[I", true)
  | 3 => ("HailLeague$Clouds", "gone", "[Z", true)
  | _ => ("HailLeague$Clouds", "count", "I", false)
def tyX1 : Nat → FieldType := fun k => match k with
  | 0 => .array .int
  | 1 => .array .int
  | 2 => .array .int
  | 3 => .array .boolean
  | _ => .int
abbrev wsX10 : List Cond := u_ws RX1 TX1 5
theorem nmX1 : ∀ a, a < 5 → ∀ b, b < 5 → a ≠ b → (TX1 a).2.1 ≠ (TX1 b).2.1 := by decide +kernel
theorem tyX1_ok : ∀ k, k < 5 → parseFieldDescriptor (TX1 k).2.2.1 = some (tyX1 k) := by decide +kernel
abbrev cX1_init : ByteArray := prog_3_method_1_code
def yX1_init : MethodName := ⟨RX1, "<init>", "()V"⟩
abbrev cX1_add : ByteArray := prog_3_method_2_code
def yX1_add : MethodName := ⟨RX1, "add", "(III)I"⟩
abbrev cX1_fact : ByteArray := prog_3_method_3_code
def yX1_fact : MethodName := ⟨RX1, "fact", "(II)I"⟩
abbrev cX1_drive : ByteArray := prog_3_method_4_code
def yX1_drive : MethodName := ⟨RX1, "drive", "(I)V"⟩
abbrev cX1_nearest : ByteArray := prog_3_method_5_code
def yX1_nearest : MethodName := ⟨RX1, "nearest", "(II)I"⟩
abbrev cX1_takeShot : ByteArray := prog_3_method_6_code
def yX1_takeShot : MethodName := ⟨RX1, "takeShot", "(III)V"⟩
abbrev cX1_dropUpon : ByteArray := prog_3_method_7_code
def yX1_dropUpon : MethodName := ⟨RX1, "dropUpon", "(LHailLeague$Vineyards;)V"⟩
abbrev cX1_haveHail : ByteArray := prog_3_method_8_code
def yX1_haveHail : MethodName := ⟨RX1, "haveHail", "()Z"⟩
abbrev cX1_there : ByteArray := prog_3_method_9_code
def yX1_there : MethodName := ⟨RX1, "there", "()I"⟩
abbrev cX1_copyFrom : ByteArray := prog_3_method_10_code
def yX1_copyFrom : MethodName := ⟨RX1, "copyFrom", "(LHailLeague$Clouds;)V"⟩
def RX2 : String := "HailLeague$League"
def TX2 : u_T := fun k => match k with
  | 0 => ("HailLeague$League", "vineyards", "LHailLeague$Vineyards;", true)
  | 1 => ("HailLeague$League", "cannons", "LHailLeague$Cannons;", true)
  | 2 => ("HailLeague$League", "clouds", "LHailLeague$Clouds;", true)
  | 3 => ("HailLeague$League", "wind", "[I", true)
  | 4 => ("HailLeague$League", "hour", "I", false)
  | _ => ("HailLeague$League", "coins", "I", false)
def tyX2 : Nat → FieldType := fun k => match k with
  | 0 => .object "HailLeague$Vineyards"
  | 1 => .object "HailLeague$Cannons"
  | 2 => .object "HailLeague$Clouds"
  | 3 => .array .int
  | 4 => .int
  | _ => .int
abbrev wsX20 : List Cond := u_ws RX2 TX2 6
theorem nmX2 : ∀ a, a < 6 → ∀ b, b < 6 → a ≠ b → (TX2 a).2.1 ≠ (TX2 b).2.1 := by decide +kernel
theorem tyX2_ok : ∀ k, k < 6 → parseFieldDescriptor (TX2 k).2.2.1 = some (tyX2 k) := by decide +kernel
abbrev cX2_init : ByteArray := prog_4_method_1_code
def yX2_init : MethodName := ⟨RX2, "<init>", "()V"⟩
abbrev cX2_copyFrom : ByteArray := prog_4_method_2_code
def yX2_copyFrom : MethodName := ⟨RX2, "copyFrom", "(LHailLeague$League;)V"⟩
abbrev cX2_goBy : ByteArray := prog_4_method_3_code
def yX2_goBy : MethodName := ⟨RX2, "goBy", "(I)V"⟩
abbrev cX2_goByOneHour : ByteArray := prog_4_method_4_code
def yX2_goByOneHour : MethodName := ⟨RX2, "goByOneHour", "()V"⟩
abbrev cX2_total : ByteArray := prog_4_method_5_code
def yX2_total : MethodName := ⟨RX2, "total", "(I)I"⟩
def RX3 : String := "HailLeague$Vineyards"
def TX3 : u_T := fun k => match k with
  | 0 => ("HailLeague$Vineyards", "place", "[I", true)
  | 1 => ("HailLeague$Vineyards", "vines", "[I", true)
  | 2 => ("HailLeague$Vineyards", "member", "[Z", true)
  | 3 => ("HailLeague$Vineyards", "insured", "[Z", true)
  | 4 => ("HailLeague$Vineyards", "lostToday", "[I", true)
  | 5 => ("HailLeague$Vineyards", "suits", "[I", true)
  | 6 => ("HailLeague$Vineyards", "lostInAll", "[I", true)
  | _ => ("HailLeague$Vineyards", "count", "I", false)
def tyX3 : Nat → FieldType := fun k => match k with
  | 0 => .array .int
  | 1 => .array .int
  | 2 => .array .boolean
  | 3 => .array .boolean
  | 4 => .array .int
  | 5 => .array .int
  | 6 => .array .int
  | _ => .int
abbrev wsX30 : List Cond := u_ws RX3 TX3 8
theorem nmX3 : ∀ a, a < 8 → ∀ b, b < 8 → a ≠ b → (TX3 a).2.1 ≠ (TX3 b).2.1 := by decide +kernel
theorem tyX3_ok : ∀ k, k < 8 → parseFieldDescriptor (TX3 k).2.2.1 = some (tyX3 k) := by decide +kernel
abbrev cX3_init : ByteArray := prog_5_method_1_code
def yX3_init : MethodName := ⟨RX3, "<init>", "()V"⟩
abbrev cX3_add : ByteArray := prog_5_method_2_code
def yX3_add : MethodName := ⟨RX3, "add", "(IIZZ)I"⟩
abbrev cX3_enrol : ByteArray := prog_5_method_3_code
def yX3_enrol : MethodName := ⟨RX3, "enrol", "(IZZ)I"⟩
abbrev cX3_fact : ByteArray := prog_5_method_4_code
def yX3_fact : MethodName := ⟨RX3, "fact", "(II)I"⟩
abbrev cX3_hearShot : ByteArray := prog_5_method_5_code
def yX3_hearShot : MethodName := ⟨RX3, "hearShot", "(I)V"⟩
abbrev cX3_takeHail : ByteArray := prog_5_method_6_code
def yX3_takeHail : MethodName := ⟨RX3, "takeHail", "(II)V"⟩
abbrev cX3_closeDay : ByteArray := prog_5_method_7_code
def yX3_closeDay : MethodName := ⟨RX3, "closeDay", "()I"⟩
abbrev cX3_sumOfVines : ByteArray := prog_5_method_8_code
def yX3_sumOfVines : MethodName := ⟨RX3, "sumOfVines", "()I"⟩
abbrev cX3_sumOfLostInAll : ByteArray := prog_5_method_9_code
def yX3_sumOfLostInAll : MethodName := ⟨RX3, "sumOfLostInAll", "()I"⟩
abbrev cX3_sumOfSuits : ByteArray := prog_5_method_10_code
def yX3_sumOfSuits : MethodName := ⟨RX3, "sumOfSuits", "()I"⟩
abbrev cX3_members : ByteArray := prog_5_method_11_code
def yX3_members : MethodName := ⟨RX3, "members", "()I"⟩
abbrev cX3_insuredOnes : ByteArray := prog_5_method_12_code
def yX3_insuredOnes : MethodName := ⟨RX3, "insuredOnes", "()I"⟩
abbrev cX3_sum : ByteArray := prog_5_method_13_code
def yX3_sum : MethodName := ⟨RX3, "sum", "([I)I"⟩
abbrev cX3_howManyAre : ByteArray := prog_5_method_14_code
def yX3_howManyAre : MethodName := ⟨RX3, "howManyAre", "([Z)I"⟩
abbrev cX3_copyFrom : ByteArray := prog_5_method_15_code
def yX3_copyFrom : MethodName := ⟨RX3, "copyFrom", "(LHailLeague$Vineyards;)V"⟩
def RX4 : String := "HailLeague"
def TX4 : u_T := fun k => match k with
  | 0 => ("HailLeague", "now", "LHailLeague$League;", true)
  | _ => ("HailLeague", "trial", "LHailLeague$League;", true)
def tyX4 : Nat → FieldType := fun k => match k with
  | 0 => .object "HailLeague$League"
  | _ => .object "HailLeague$League"
abbrev wsX40 : List Cond := u_ws RX4 TX4 2
theorem nmX4 : ∀ a, a < 2 → ∀ b, b < 2 → a ≠ b → (TX4 a).2.1 ≠ (TX4 b).2.1 := by decide +kernel
theorem tyX4_ok : ∀ k, k < 2 → parseFieldDescriptor (TX4 k).2.2.1 = some (tyX4 k) := by decide +kernel
abbrev cX4_init : ByteArray := prog_1_method_1_code
def yX4_init : MethodName := ⟨RX4, "<init>", "()V"⟩
abbrev cX4_plant : ByteArray := prog_1_method_2_code
def yX4_plant : MethodName := ⟨RX4, "plant", "(IIZZ)I"⟩
abbrev cX4_sign : ByteArray := prog_1_method_3_code
def yX4_sign : MethodName := ⟨RX4, "sign", "(IZZ)I"⟩
abbrev cX4_cannon : ByteArray := prog_1_method_4_code
def yX4_cannon : MethodName := ⟨RX4, "cannon", "(III)I"⟩
abbrev cX4_load : ByteArray := prog_1_method_5_code
def yX4_load : MethodName := ⟨RX4, "load", "(II)I"⟩
abbrev cX4_gather : ByteArray := prog_1_method_6_code
def yX4_gather : MethodName := ⟨RX4, "gather", "(III)I"⟩
abbrev cX4_setWind : ByteArray := prog_1_method_7_code
def yX4_setWind : MethodName := ⟨RX4, "setWind", "(II)I"⟩
abbrev cX4_vineyard : ByteArray := prog_1_method_8_code
def yX4_vineyard : MethodName := ⟨RX4, "vineyard", "(II)I"⟩
abbrev cX4_about : ByteArray := prog_1_method_9_code
def yX4_about : MethodName := ⟨RX4, "about", "(II)I"⟩
abbrev cX4_cloud : ByteArray := prog_1_method_10_code
def yX4_cloud : MethodName := ⟨RX4, "cloud", "(II)I"⟩
abbrev cX4_count : ByteArray := prog_1_method_11_code
def yX4_count : MethodName := ⟨RX4, "count", "(I)I"⟩
abbrev cX4_pass : ByteArray := prog_1_method_12_code
def yX4_pass : MethodName := ⟨RX4, "pass", "(I)I"⟩
abbrev cX4_hit : ByteArray := prog_1_method_13_code
def yX4_hit : MethodName := ⟨RX4, "hit", "(I)I"⟩
abbrev cX4_foresee : ByteArray := prog_1_method_14_code
def yX4_foresee : MethodName := ⟨RX4, "foresee", "(II)I"⟩
abbrev cX4_advise : ByteArray := prog_1_method_15_code
def yX4_advise : MethodName := ⟨RX4, "advise", "(II)I"⟩
abbrev cX4_move : ByteArray := prog_1_method_16_code
def yX4_move : MethodName := ⟨RX4, "move", "(II)I"⟩
abbrev cX4_mean : ByteArray := prog_1_method_17_code
def yX4_mean : MethodName := ⟨RX4, "mean", "()D"⟩
abbrev cX4_digest : ByteArray := prog_1_method_18_code
def yX4_digest : MethodName := ⟨RX4, "digest", "()J"⟩
abbrev cX4_digestOfVineyards : ByteArray := prog_1_method_19_code
def yX4_digestOfVineyards : MethodName := ⟨RX4, "digestOfVineyards", "(J)J"⟩
abbrev cX4_digestOfCannons : ByteArray := prog_1_method_20_code
def yX4_digestOfCannons : MethodName := ⟨RX4, "digestOfCannons", "(J)J"⟩
abbrev cX4_digestOfClouds : ByteArray := prog_1_method_21_code
def yX4_digestOfClouds : MethodName := ⟨RX4, "digestOfClouds", "(J)J"⟩
abbrev cX4_lostWith : ByteArray := prog_1_method_22_code
def yX4_lostWith : MethodName := ⟨RX4, "lostWith", "(III)I"⟩
abbrev cX4_isPlace : ByteArray := prog_1_method_23_code
def yX4_isPlace : MethodName := ⟨RX4, "isPlace", "(I)Z"⟩
abbrev cX4_requireArgument : ByteArray := prog_1_method_24_code
def yX4_requireArgument : MethodName := ⟨RX4, "requireArgument", "(Z)V"⟩
abbrev cX4_requireState : ByteArray := prog_1_method_25_code
def yX4_requireState : MethodName := ⟨RX4, "requireState", "(Z)V"⟩
abbrev cX4_requireIndex : ByteArray := prog_1_method_26_code
def yX4_requireIndex : MethodName := ⟨RX4, "requireIndex", "(II)V"⟩
abbrev cX4_requireForeseen : ByteArray := prog_1_method_27_code
def yX4_requireForeseen : MethodName := ⟨RX4, "requireForeseen", "(I)V"⟩
def RX5 : String := "HailLeagueLaw$Sim"
def TX5 : u_T := fun k => match k with
  | 0 => ("HailLeagueLaw$Sim", "hour", "I", false)
  | 1 => ("HailLeagueLaw$Sim", "coins", "I", false)
  | 2 => ("HailLeagueLaw$Sim", "wind", "[I", false)
  | 3 => ("HailLeagueLaw$Sim", "yards", "[[I", false)
  | 4 => ("HailLeagueLaw$Sim", "cannons", "[[I", false)
  | _ => ("HailLeagueLaw$Sim", "clouds", "[[I", false)
def tyX5 : Nat → FieldType := fun k => match k with
  | 0 => .int
  | 1 => .int
  | 2 => .array .int
  | 3 => .array (.array .int)
  | 4 => .array (.array .int)
  | _ => .array (.array .int)
abbrev wsX50 : List Cond := u_ws RX5 TX5 6
theorem nmX5 : ∀ a, a < 6 → ∀ b, b < 6 → a ≠ b → (TX5 a).2.1 ≠ (TX5 b).2.1 := by decide +kernel
theorem tyX5_ok : ∀ k, k < 6 → parseFieldDescriptor (TX5 k).2.2.1 = some (tyX5 k) := by decide +kernel
abbrev cX5_init : ByteArray := prog_7_method_1_code
def yX5_init : MethodName := ⟨RX5, "<init>", "()V"⟩
abbrev cX5_more : ByteArray := prog_7_method_2_code
def yX5_more : MethodName := ⟨RX5, "more", "([[I[I)[[I"⟩
abbrev cX5_aims : ByteArray := prog_7_method_4_code
def yX5_aims : MethodName := ⟨RX5, "aims", "([I)I"⟩
abbrev cX5_pass : ByteArray := prog_7_method_5_code
def yX5_pass : MethodName := ⟨RX5, "pass", "()I"⟩
abbrev cX5_sum : ByteArray := prog_7_method_6_code
def yX5_sum : MethodName := ⟨RX5, "sum", "([[II)I"⟩
abbrev cX5_counts : ByteArray := prog_7_method_7_code
def yX5_counts : MethodName := ⟨RX5, "counts", "()[I"⟩
abbrev cX5_isSame : ByteArray := prog_7_method_9_code
def yX5_isSame : MethodName := ⟨RX5, "isSame", "(LHailLeague;)Z"⟩
def RX6 : String := "HailLeagueModel$State"
def TX6 : u_T := fun k => match k with
  | _ => ("", "", "", false)
def tyX6 : Nat → FieldType := fun k => match k with
  | _ => .int
abbrev wsX60 : List Cond := u_ws RX6 TX6 0
theorem nmX6 : ∀ a, a < 0 → ∀ b, b < 0 → a ≠ b → (TX6 a).2.1 ≠ (TX6 b).2.1 := by decide +kernel
theorem tyX6_ok : ∀ k, k < 0 → parseFieldDescriptor (TX6 k).2.2.1 = some (tyX6 k) := by decide +kernel
def RX7 : String := "HailLeagueModel"
def TX7 : u_T := fun k => match k with
  | _ => ("", "", "", false)
def tyX7 : Nat → FieldType := fun k => match k with
  | _ => .int
abbrev wsX70 : List Cond := u_ws RX7 TX7 0
theorem nmX7 : ∀ a, a < 0 → ∀ b, b < 0 → a ≠ b → (TX7 a).2.1 ≠ (TX7 b).2.1 := by decide +kernel
theorem tyX7_ok : ∀ k, k < 0 → parseFieldDescriptor (TX7 k).2.2.1 = some (tyX7 k) := by decide +kernel
def RJ9 : String := "java/lang/Math"
def TJ9 : u_T := fun k => match k with
  | _ => ("", "", "", false)
def tyJ9 : Nat → FieldType := fun k => match k with
  | _ => .int
abbrev wsJ90 : List Cond := u_ws RJ9 TJ9 0
theorem nmJ9 : ∀ a, a < 0 → ∀ b, b < 0 → a ≠ b → (TJ9 a).2.1 ≠ (TJ9 b).2.1 := by decide +kernel
theorem tyJ9_ok : ∀ k, k < 0 → parseFieldDescriptor (TJ9 k).2.2.1 = some (tyJ9 k) := by decide +kernel
abbrev cJ9_floorMod_7cf53 : ByteArray := prog_14_method_50_code
def yJ9_floorMod_7cf53 : MethodName := ⟨RJ9, "floorMod", "(II)I"⟩
abbrev cJ9_abs_0f7a4 : ByteArray := prog_14_method_59_code
def yJ9_abs_0f7a4 : MethodName := ⟨RJ9, "abs", "(I)I"⟩
abbrev cJ9_max_7cf53 : ByteArray := prog_14_method_65_code
def yJ9_max_7cf53 : MethodName := ⟨RJ9, "max", "(II)I"⟩
abbrev cJ9_min_7cf53 : ByteArray := prog_14_method_69_code
def yJ9_min_7cf53 : MethodName := ⟨RJ9, "min", "(II)I"⟩
def RJ10 : String := "java/lang/System"
def TJ10 : u_T := fun k => match k with
  | _ => ("", "", "", false)
def tyJ10 : Nat → FieldType := fun k => match k with
  | _ => .int
abbrev wsJ100 : List Cond := u_ws RJ10 TJ10 0
theorem nmJ10 : ∀ a, a < 0 → ∀ b, b < 0 → a ≠ b → (TJ10 a).2.1 ≠ (TJ10 b).2.1 := by decide +kernel
theorem tyJ10_ok : ∀ k, k < 0 → parseFieldDescriptor (TJ10 k).2.2.1 = some (tyJ10 k) := by decide +kernel
def RL : String := "HailLeagueLaw"
abbrev cL_below : ByteArray := method_2_code
def yL_below : MethodName := ⟨RL, "below", "(II)I"⟩
abbrev cL_cell : ByteArray := method_3_code
def yL_cell : MethodName := ⟨RL, "cell", "([II)I"⟩
abbrev cL_act : ByteArray := method_4_code
def yL_act : MethodName := ⟨RL, "act", "(LHailLeague;LHailLeagueLaw$Sim;I)Z"⟩
abbrev cL_build : ByteArray := method_5_code
def yL_build : MethodName := ⟨RL, "build", "(LHailLeague;[I)LHailLeagueLaw$Sim;"⟩
abbrev cL_law : ByteArray := code
def yL_law : MethodName := ⟨RL, "law", "([I)Z"⟩
abbrev vwCl : List vw_C := [(RX0, TX0, 5), (RX1, TX1, 5), (RX2, TX2, 6), (RX3, TX3, 8), (RX4, TX4, 2), (RX5, TX5, 6)]
