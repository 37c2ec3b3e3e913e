/-! the words that every method here is given: all of the tables that stay true -/
def wt_ : List Cond := lw_tbl.filter goodWord
theorem wt_in {i : Nat} {w : Cond} (h : lw_tbl[i]? = some w) (hg : goodWord w = true) : w ∈ wt_ := List.mem_filter.mpr ⟨List.mem_of_getElem? h, hg⟩
theorem wt_tbl {w : Cond} (h : w ∈ wt_) : w ∈ lw_tbl := (List.mem_filter.mp h).1
theorem wt_good {y : MethodName} {b : ByteArray} {mL : Nat} {ret : Option FieldType} (h : Cond.code y b mL ret ∈ wt_) : GoodIn wt_ (Cond.code y b mL ret :: wt_) := by
  intro w hw
  have hw' : w ∈ wt_ := (List.mem_cons.mp hw).elim (fun e => e ▸ h) id
  exact ⟨hw', good_of_word (List.mem_filter.mp hw').2⟩
theorem wt_sub (ws : List Cond) (ps : List Nat) (hp : ws = ps.filterMap (fun i => lw_tbl[i]?)) (h : ws.all goodWord = true) : ∀ w ∈ ws, w ∈ wt_ := by
  intro w hw
  have h1 := List.all_eq_true.mp h w hw
  rw [hp] at hw
  obtain ⟨i, -, hi⟩ := List.mem_filterMap.mp hw
  exact wt_in hi h1

theorem m_0 : (Cond.selects "SlitDrum" ⟨"SlitDrum", "record", "(I)V"⟩ ⟨"SlitDrum", "record", "(I)V"⟩) ∈ wt_ := wt_in (i := 0) (by decide +kernel) rfl
theorem m_1 : (Cond.selects "SlitDrum" ⟨"SlitDrum", "readerOf", "(I)LSlitDrum$Reader;"⟩ ⟨"SlitDrum", "readerOf", "(I)LSlitDrum$Reader;"⟩) ∈ wt_ := wt_in (i := 1) (by decide +kernel) rfl
theorem m_2 : (Cond.selects "SlitDrum$LanternReader" ⟨"SlitDrum$LanternReader", "isClause", "()Z"⟩ ⟨"SlitDrum$LanternReader", "isClause", "()Z"⟩) ∈ wt_ := wt_in (i := 2) (by decide +kernel) rfl
theorem m_3 : (Cond.selects "SlitDrum$LanternReader" ⟨"SlitDrum$LanternReader", "areItems", "(Ljava/lang/String;[I[I[II)Z"⟩ ⟨"SlitDrum$LanternReader", "areItems", "(Ljava/lang/String;[I[I[II)Z"⟩) ∈ wt_ := wt_in (i := 3) (by decide +kernel) rfl
theorem m_4 : (Cond.selects "SlitDrum$LawReader" ⟨"SlitDrum$LawReader", "isClause", "()Z"⟩ ⟨"SlitDrum$LawReader", "isClause", "()Z"⟩) ∈ wt_ := wt_in (i := 4) (by decide +kernel) rfl
theorem m_5 : (Cond.selects "SlitDrum$LawReader" ⟨"SlitDrum$LawReader", "isCondition", "(I)Z"⟩ ⟨"SlitDrum$LawReader", "isCondition", "(I)Z"⟩) ∈ wt_ := wt_in (i := 5) (by decide +kernel) rfl
theorem m_6 : (Cond.selects "SlitDrum$LawReader" ⟨"SlitDrum$LawReader", "isTruth", "(I)Z"⟩ ⟨"SlitDrum$LawReader", "isTruth", "(I)Z"⟩) ∈ wt_ := wt_in (i := 6) (by decide +kernel) rfl
theorem m_7 : (Cond.selects "SlitDrum$LawReader" ⟨"SlitDrum$LawReader", "isUnit", "(I)Z"⟩ ⟨"SlitDrum$LawReader", "isUnit", "(I)Z"⟩) ∈ wt_ := wt_in (i := 7) (by decide +kernel) rfl
theorem m_8 : (Cond.selects "SlitDrum$LawReader" ⟨"SlitDrum$LawReader", "isSum", "(I)Z"⟩ ⟨"SlitDrum$LawReader", "isSum", "(I)Z"⟩) ∈ wt_ := wt_in (i := 8) (by decide +kernel) rfl
theorem m_9 : (Cond.selects "SlitDrum$LawReader" ⟨"SlitDrum$LawReader", "isTerm", "(I)Z"⟩ ⟨"SlitDrum$LawReader", "isTerm", "(I)Z"⟩) ∈ wt_ := wt_in (i := 9) (by decide +kernel) rfl
theorem m_10 : (Cond.selects "SlitDrum$LawReader" ⟨"SlitDrum$LawReader", "isAtom", "(I)Z"⟩ ⟨"SlitDrum$LawReader", "isAtom", "(I)Z"⟩) ∈ wt_ := wt_in (i := 10) (by decide +kernel) rfl
theorem m_11 : (Cond.selects "SlitDrum$LawReader" ⟨"SlitDrum$LawReader", "write", "(I)V"⟩ ⟨"SlitDrum$LawReader", "write", "(I)V"⟩) ∈ wt_ := wt_in (i := 11) (by decide +kernel) rfl
theorem m_12 : (Cond.selects "SlitDrum$LawReader" ⟨"SlitDrum$LawReader", "isCompared", "(I)Z"⟩ ⟨"SlitDrum$LawReader", "isCompared", "(I)Z"⟩) ∈ wt_ := wt_in (i := 12) (by decide +kernel) rfl
theorem m_13 : (Cond.selects "SlitDrum$LawReader" ⟨"SlitDrum$LawReader", "areMoreUnits", "(I)Z"⟩ ⟨"SlitDrum$LawReader", "areMoreUnits", "(I)Z"⟩) ∈ wt_ := wt_in (i := 13) (by decide +kernel) rfl
theorem m_14 : (Cond.selects "SlitDrum$LawReader" ⟨"SlitDrum$LawReader", "areMoreTruths", "(I)Z"⟩ ⟨"SlitDrum$LawReader", "areMoreTruths", "(I)Z"⟩) ∈ wt_ := wt_in (i := 14) (by decide +kernel) rfl
theorem m_15 : (Cond.selects "SlitDrum$LawReader" ⟨"SlitDrum$LawReader", "isAnswerIf", "()Z"⟩ ⟨"SlitDrum$LawReader", "isAnswerIf", "()Z"⟩) ∈ wt_ := wt_in (i := 15) (by decide +kernel) rfl
theorem m_16 : (Cond.selects "SlitDrum$StripReader" ⟨"SlitDrum$StripReader", "add", "(II)V"⟩ ⟨"SlitDrum$StripReader", "add", "(II)V"⟩) ∈ wt_ := wt_in (i := 16) (by decide +kernel) rfl
theorem m_17 : (Cond.selects "SlitDrum" ⟨"SlitDrum", "tellLantern", "()I"⟩ ⟨"SlitDrum", "tellLantern", "()I"⟩) ∈ wt_ := wt_in (i := 17) (by decide +kernel) rfl
theorem m_18 : (Cond.selects "SlitDrum" ⟨"SlitDrum", "stripOf", "(LSlitDrum$Wheel;)LSlitDrum$Strip;"⟩ ⟨"SlitDrum", "stripOf", "(LSlitDrum$Wheel;)LSlitDrum$Strip;"⟩) ∈ wt_ := wt_in (i := 18) (by decide +kernel) rfl
theorem m_19 : (Cond.selects "SlitDrum" ⟨"SlitDrum", "isStrip", "(I)Z"⟩ ⟨"SlitDrum", "isStrip", "(I)Z"⟩) ∈ wt_ := wt_in (i := 19) (by decide +kernel) rfl
theorem m_20 : (Cond.selects "SlitDrum" ⟨"SlitDrum", "tellLaw", "()I"⟩ ⟨"SlitDrum", "tellLaw", "()I"⟩) ∈ wt_ := wt_in (i := 20) (by decide +kernel) rfl
theorem m_21 : (Cond.selects "SlitDrum" ⟨"SlitDrum", "tellStrip", "()I"⟩ ⟨"SlitDrum", "tellStrip", "()I"⟩) ∈ wt_ := wt_in (i := 21) (by decide +kernel) rfl
theorem m_22 : (Cond.selects "SlitDrum" ⟨"SlitDrum", "isLit", "()Z"⟩ ⟨"SlitDrum", "isLit", "()Z"⟩) ∈ wt_ := wt_in (i := 22) (by decide +kernel) rfl
theorem m_23 : (Cond.selects "SlitDrum" ⟨"SlitDrum", "refused", "(I)I"⟩ ⟨"SlitDrum", "refused", "(I)I"⟩) ∈ wt_ := wt_in (i := 23) (by decide +kernel) rfl
theorem m_24 : (Cond.selects "SlitDrum" ⟨"SlitDrum", "tickOnce", "()V"⟩ ⟨"SlitDrum", "tickOnce", "()V"⟩) ∈ wt_ := wt_in (i := 24) (by decide +kernel) rfl
theorem m_25 : (Cond.selects "SlitDrum" ⟨"SlitDrum", "nextPlace", "(I)I"⟩ ⟨"SlitDrum", "nextPlace", "(I)I"⟩) ∈ wt_ := wt_in (i := 25) (by decide +kernel) rfl
theorem m_26 : (Cond.selects "SlitDrum" ⟨"SlitDrum", "courseOf", "(I)LSlitDrum$Course;"⟩ ⟨"SlitDrum", "courseOf", "(I)LSlitDrum$Course;"⟩) ∈ wt_ := wt_in (i := 26) (by decide +kernel) rfl
theorem m_27 : (Cond.selects "SlitDrum" ⟨"SlitDrum", "lawNow", "()LSlitDrum$Law;"⟩ ⟨"SlitDrum", "lawNow", "()LSlitDrum$Law;"⟩) ∈ wt_ := wt_in (i := 27) (by decide +kernel) rfl
theorem m_28 : (Cond.selects "SlitDrum$Law" ⟨"SlitDrum$Law", "pull", "()I"⟩ ⟨"SlitDrum$Law", "pull", "()I"⟩) ∈ wt_ := wt_in (i := 28) (by decide +kernel) rfl
theorem m_29 : (Cond.selects "SlitDrum$Law" ⟨"SlitDrum$Law", "pile", "(I)V"⟩ ⟨"SlitDrum$Law", "pile", "(I)V"⟩) ∈ wt_ := wt_in (i := 29) (by decide +kernel) rfl
theorem m_30 : (Cond.selects "SlitDrum" ⟨"SlitDrum", "lookOnce", "()V"⟩ ⟨"SlitDrum", "lookOnce", "()V"⟩) ∈ wt_ := wt_in (i := 30) (by decide +kernel) rfl
theorem m_31 : (Cond.selects "SlitDrum" ⟨"SlitDrum", "shown", "(LSlitDrum$Wheel;)I"⟩ ⟨"SlitDrum", "shown", "(LSlitDrum$Wheel;)I"⟩) ∈ wt_ := wt_in (i := 31) (by decide +kernel) rfl
theorem m_32 : (Cond.selects "SlitDrum" ⟨"SlitDrum", "allShowOne", "()Z"⟩ ⟨"SlitDrum", "allShowOne", "()Z"⟩) ∈ wt_ := wt_in (i := 32) (by decide +kernel) rfl
theorem m_33 : (Cond.selects "SlitDrum" ⟨"SlitDrum", "isWheel", "(I)Z"⟩ ⟨"SlitDrum", "isWheel", "(I)Z"⟩) ∈ wt_ := wt_in (i := 33) (by decide +kernel) rfl
theorem m_34 : (Cond.selects "SlitDrum" ⟨"SlitDrum", "shove", "(LSlitDrum$Wheel;I)V"⟩ ⟨"SlitDrum", "shove", "(LSlitDrum$Wheel;I)V"⟩) ∈ wt_ := wt_in (i := 34) (by decide +kernel) rfl
theorem m_35 : (Cond.selects "SlitDrum" ⟨"SlitDrum", "meddle", "()V"⟩ ⟨"SlitDrum", "meddle", "()V"⟩) ∈ wt_ := wt_in (i := 35) (by decide +kernel) rfl
theorem m_36 : (Cond.selects "SlitDrum" ⟨"SlitDrum", "draw", "(I)I"⟩ ⟨"SlitDrum", "draw", "(I)I"⟩) ∈ wt_ := wt_in (i := 36) (by decide +kernel) rfl
theorem m_37 : (Cond.selects "SlitDrum" ⟨"SlitDrum", "traced", "(I)LSlitDrum$Course;"⟩ ⟨"SlitDrum", "traced", "(I)LSlitDrum$Course;"⟩) ∈ wt_ := wt_in (i := 37) (by decide +kernel) rfl
theorem m_38 : (Cond.selects "SlitDrum" ⟨"SlitDrum", "traceAll", "()V"⟩ ⟨"SlitDrum", "traceAll", "()V"⟩) ∈ wt_ := wt_in (i := 38) (by decide +kernel) rfl
theorem m_39 : (Cond.selects "SlitDrum$Strip" ⟨"SlitDrum$Strip", "isRow", "(LSlitDrum$Strip;IZ)Z"⟩ ⟨"SlitDrum$Strip", "isRow", "(LSlitDrum$Strip;IZ)Z"⟩) ∈ wt_ := wt_in (i := 39) (by decide +kernel) rfl
theorem m_40 : (Cond.selects "SlitDrum$Strip" ⟨"SlitDrum$Strip", "compareRows", "(III)I"⟩ ⟨"SlitDrum$Strip", "compareRows", "(III)I"⟩) ∈ wt_ := wt_in (i := 40) (by decide +kernel) rfl
theorem m_41 : (Cond.selects "SlitDrum$Notes" ⟨"SlitDrum$Notes", "isSo", "(LSlitDrum$Strip;II)Z"⟩ ⟨"SlitDrum$Notes", "isSo", "(LSlitDrum$Strip;II)Z"⟩) ∈ wt_ := wt_in (i := 41) (by decide +kernel) rfl
theorem m_42 : (Cond.selects "SlitDrum$Notes" ⟨"SlitDrum$Notes", "mostAlike", "([LSlitDrum$Strip;I)I"⟩ ⟨"SlitDrum$Notes", "mostAlike", "([LSlitDrum$Strip;I)I"⟩) ∈ wt_ := wt_in (i := 42) (by decide +kernel) rfl
theorem m_43 : (Cond.selects "SlitDrum" ⟨"SlitDrum", "lookerHas", "(III)I"⟩ ⟨"SlitDrum", "lookerHas", "(III)I"⟩) ∈ wt_ := wt_in (i := 43) (by decide +kernel) rfl
theorem m_44 : (Cond.selects "SlitDrum" ⟨"SlitDrum", "unlikeSeen", "(LSlitDrum$Wheel;I)I"⟩ ⟨"SlitDrum", "unlikeSeen", "(LSlitDrum$Wheel;I)I"⟩) ∈ wt_ := wt_in (i := 44) (by decide +kernel) rfl
theorem m_45 : (Cond.selects "SlitDrum" ⟨"SlitDrum", "turnerHas", "(III)I"⟩ ⟨"SlitDrum", "turnerHas", "(III)I"⟩) ∈ wt_ := wt_in (i := 45) (by decide +kernel) rfl
theorem m_46 : (Cond.selects "SlitDrum" ⟨"SlitDrum", "isRest", "(III)Z"⟩ ⟨"SlitDrum", "isRest", "(III)Z"⟩) ∈ wt_ := wt_in (i := 46) (by decide +kernel) rfl
theorem m_47 : (Cond.selects "SlitDrum$Course" ⟨"SlitDrum$Course", "showingOf", "(JIIIII)J"⟩ ⟨"SlitDrum$Course", "showingOf", "(JIIIII)J"⟩) ∈ wt_ := wt_in (i := 47) (by decide +kernel) rfl
theorem m_48 : (Cond.selects "SlitDrum" ⟨"SlitDrum", "fastest", "()I"⟩ ⟨"SlitDrum", "fastest", "()I"⟩) ∈ wt_ := wt_in (i := 48) (by decide +kernel) rfl
theorem m_49 : (Cond.selects "SlitDrum" ⟨"SlitDrum", "longest", "()I"⟩ ⟨"SlitDrum", "longest", "()I"⟩) ∈ wt_ := wt_in (i := 49) (by decide +kernel) rfl
theorem m_50 : (Cond.selects "SlitDrum" ⟨"SlitDrum", "commonest", "()I"⟩ ⟨"SlitDrum", "commonest", "()I"⟩) ∈ wt_ := wt_in (i := 50) (by decide +kernel) rfl
theorem m_51 : (Cond.selects "SlitDrum" ⟨"SlitDrum", "shownNow", "()I"⟩ ⟨"SlitDrum", "shownNow", "()I"⟩) ∈ wt_ := wt_in (i := 51) (by decide +kernel) rfl
theorem m_52 : (Cond.selects "SlitDrum" ⟨"SlitDrum", "twins", "()I"⟩ ⟨"SlitDrum", "twins", "()I"⟩) ∈ wt_ := wt_in (i := 52) (by decide +kernel) rfl
theorem m_53 : (Cond.selects "SlitDrum" ⟨"SlitDrum", "turningBack", "()I"⟩ ⟨"SlitDrum", "turningBack", "()I"⟩) ∈ wt_ := wt_in (i := 53) (by decide +kernel) rfl
theorem m_54 : (Cond.selects "SlitDrum" ⟨"SlitDrum", "bareNow", "()I"⟩ ⟨"SlitDrum", "bareNow", "()I"⟩) ∈ wt_ := wt_in (i := 54) (by decide +kernel) rfl
theorem m_55 : (Cond.selects "SlitDrum" ⟨"SlitDrum", "still", "()I"⟩ ⟨"SlitDrum", "still", "()I"⟩) ∈ wt_ := wt_in (i := 55) (by decide +kernel) rfl
theorem m_56 : (Cond.selects "SlitDrum" ⟨"SlitDrum", "byPlace", "()I"⟩ ⟨"SlitDrum", "byPlace", "()I"⟩) ∈ wt_ := wt_in (i := 56) (by decide +kernel) rfl
theorem m_58 : (Cond.selects "SlitDrumModel" ⟨"SlitDrumModel", "readLantern", "()I"⟩ ⟨"SlitDrumModel", "readLantern", "()I"⟩) ∈ wt_ := wt_in (i := 58) (by decide +kernel) rfl
theorem m_59 : (Cond.selects "SlitDrumModel" ⟨"SlitDrumModel", "look", "()I"⟩ ⟨"SlitDrumModel", "look", "()I"⟩) ∈ wt_ := wt_in (i := 59) (by decide +kernel) rfl
theorem m_60 : (Cond.selects "SlitDrumModel" ⟨"SlitDrumModel", "here", "()I"⟩ ⟨"SlitDrumModel", "here", "()I"⟩) ∈ wt_ := wt_in (i := 60) (by decide +kernel) rfl
theorem m_61 : (Cond.selects "SlitDrumModel" ⟨"SlitDrumModel", "items", "(I[III)V"⟩ ⟨"SlitDrumModel", "items", "(I[III)V"⟩) ∈ wt_ := wt_in (i := 61) (by decide +kernel) rfl
theorem m_62 : (Cond.selects "SlitDrumModel" ⟨"SlitDrumModel", "number", "(II)I"⟩ ⟨"SlitDrumModel", "number", "(II)I"⟩) ∈ wt_ := wt_in (i := 62) (by decide +kernel) rfl
theorem m_63 : (Cond.selects "SlitDrumModel" ⟨"SlitDrumModel", "bad", "()V"⟩ ⟨"SlitDrumModel", "bad", "()V"⟩) ∈ wt_ := wt_in (i := 63) (by decide +kernel) rfl
theorem m_64 : (Cond.selects "SlitDrumModel" ⟨"SlitDrumModel", "readLaw", "(I)I"⟩ ⟨"SlitDrumModel", "readLaw", "(I)I"⟩) ∈ wt_ := wt_in (i := 64) (by decide +kernel) rfl
theorem m_65 : (Cond.selects "SlitDrumModel" ⟨"SlitDrumModel", "open", "(I)V"⟩ ⟨"SlitDrumModel", "open", "(I)V"⟩) ∈ wt_ := wt_in (i := 65) (by decide +kernel) rfl
theorem m_66 : (Cond.selects "SlitDrumModel" ⟨"SlitDrumModel", "clause", "()V"⟩ ⟨"SlitDrumModel", "clause", "()V"⟩) ∈ wt_ := wt_in (i := 66) (by decide +kernel) rfl
theorem m_67 : (Cond.selects "SlitDrumModel" ⟨"SlitDrumModel", "condition", "()V"⟩ ⟨"SlitDrumModel", "condition", "()V"⟩) ∈ wt_ := wt_in (i := 67) (by decide +kernel) rfl
theorem m_68 : (Cond.selects "SlitDrumModel" ⟨"SlitDrumModel", "unit", "()V"⟩ ⟨"SlitDrumModel", "unit", "()V"⟩) ∈ wt_ := wt_in (i := 68) (by decide +kernel) rfl
theorem m_69 : (Cond.selects "SlitDrumModel" ⟨"SlitDrumModel", "opens", "()V"⟩ ⟨"SlitDrumModel", "opens", "()V"⟩) ∈ wt_ := wt_in (i := 69) (by decide +kernel) rfl
theorem m_70 : (Cond.selects "SlitDrumModel" ⟨"SlitDrumModel", "put", "(II)V"⟩ ⟨"SlitDrumModel", "put", "(II)V"⟩) ∈ wt_ := wt_in (i := 70) (by decide +kernel) rfl
theorem m_71 : (Cond.selects "SlitDrumModel" ⟨"SlitDrumModel", "closes", "(I)V"⟩ ⟨"SlitDrumModel", "closes", "(I)V"⟩) ∈ wt_ := wt_in (i := 71) (by decide +kernel) rfl
theorem m_72 : (Cond.selects "SlitDrumModel" ⟨"SlitDrumModel", "sum", "()V"⟩ ⟨"SlitDrumModel", "sum", "()V"⟩) ∈ wt_ := wt_in (i := 72) (by decide +kernel) rfl
theorem m_73 : (Cond.selects "SlitDrumModel" ⟨"SlitDrumModel", "term", "()V"⟩ ⟨"SlitDrumModel", "term", "()V"⟩) ∈ wt_ := wt_in (i := 73) (by decide +kernel) rfl
theorem m_74 : (Cond.selects "SlitDrumModel" ⟨"SlitDrumModel", "atom", "()V"⟩ ⟨"SlitDrumModel", "atom", "()V"⟩) ∈ wt_ := wt_in (i := 74) (by decide +kernel) rfl
theorem m_75 : (Cond.selects "SlitDrumModel" ⟨"SlitDrumModel", "plainNumber", "()I"⟩ ⟨"SlitDrumModel", "plainNumber", "()I"⟩) ∈ wt_ := wt_in (i := 75) (by decide +kernel) rfl
theorem m_76 : (Cond.selects "SlitDrumModel" ⟨"SlitDrumModel", "compare", "()V"⟩ ⟨"SlitDrumModel", "compare", "()V"⟩) ∈ wt_ := wt_in (i := 76) (by decide +kernel) rfl
theorem m_77 : (Cond.selects "SlitDrumModel" ⟨"SlitDrumModel", "goOnAnd", "()V"⟩ ⟨"SlitDrumModel", "goOnAnd", "()V"⟩) ∈ wt_ := wt_in (i := 77) (by decide +kernel) rfl
theorem m_78 : (Cond.selects "SlitDrumModel" ⟨"SlitDrumModel", "goOnOr", "()V"⟩ ⟨"SlitDrumModel", "goOnOr", "()V"⟩) ∈ wt_ := wt_in (i := 78) (by decide +kernel) rfl
theorem m_79 : (Cond.selects "SlitDrumModel" ⟨"SlitDrumModel", "atEnd", "()I"⟩ ⟨"SlitDrumModel", "atEnd", "()I"⟩) ∈ wt_ := wt_in (i := 79) (by decide +kernel) rfl
theorem m_80 : (Cond.selects "SlitDrumModel" ⟨"SlitDrumModel", "readStrip", "(I)I"⟩ ⟨"SlitDrumModel", "readStrip", "(I)I"⟩) ∈ wt_ := wt_in (i := 80) (by decide +kernel) rfl
theorem m_81 : (Cond.selects "SlitDrumModel" ⟨"SlitDrumModel", "readPicture", "(II)V"⟩ ⟨"SlitDrumModel", "readPicture", "(II)V"⟩) ∈ wt_ := wt_in (i := 81) (by decide +kernel) rfl
theorem m_82 : (Cond.selects "SlitDrumModel" ⟨"SlitDrumModel", "takeLantern", "()I"⟩ ⟨"SlitDrumModel", "takeLantern", "()I"⟩) ∈ wt_ := wt_in (i := 82) (by decide +kernel) rfl
theorem m_83 : (Cond.selects "SlitDrumModel" ⟨"SlitDrumModel", "of", "(II)I"⟩ ⟨"SlitDrumModel", "of", "(II)I"⟩) ∈ wt_ := wt_in (i := 83) (by decide +kernel) rfl
theorem m_84 : (Cond.selects "SlitDrumModel" ⟨"SlitDrumModel", "longOf", "(I)I"⟩ ⟨"SlitDrumModel", "longOf", "(I)I"⟩) ∈ wt_ := wt_in (i := 84) (by decide +kernel) rfl
theorem m_85 : (Cond.selects "SlitDrumModel" ⟨"SlitDrumModel", "stripLongOf", "(I)I"⟩ ⟨"SlitDrumModel", "stripLongOf", "(I)I"⟩) ∈ wt_ := wt_in (i := 85) (by decide +kernel) rfl
theorem m_86 : (Cond.selects "SlitDrumModel" ⟨"SlitDrumModel", "isWheel", "(I)Z"⟩ ⟨"SlitDrumModel", "isWheel", "(I)Z"⟩) ∈ wt_ := wt_in (i := 86) (by decide +kernel) rfl
theorem m_87 : (Cond.selects "SlitDrumModel" ⟨"SlitDrumModel", "showsOf", "(I)I"⟩ ⟨"SlitDrumModel", "showsOf", "(I)I"⟩) ∈ wt_ := wt_in (i := 87) (by decide +kernel) rfl
theorem m_88 : (Cond.selects "SlitDrumModel" ⟨"SlitDrumModel", "pictureAt", "(II)I"⟩ ⟨"SlitDrumModel", "pictureAt", "(II)I"⟩) ∈ wt_ := wt_in (i := 88) (by decide +kernel) rfl
theorem m_89 : (Cond.selects "SlitDrumModel" ⟨"SlitDrumModel", "isStrip", "(I)Z"⟩ ⟨"SlitDrumModel", "isStrip", "(I)Z"⟩) ∈ wt_ := wt_in (i := 89) (by decide +kernel) rfl
theorem m_90 : (Cond.selects "SlitDrumModel" ⟨"SlitDrumModel", "areTicks", "(I)Z"⟩ ⟨"SlitDrumModel", "areTicks", "(I)Z"⟩) ∈ wt_ := wt_in (i := 90) (by decide +kernel) rfl
theorem m_91 : (Cond.selects "SlitDrumModel" ⟨"SlitDrumModel", "isRefused", "(I)Z"⟩ ⟨"SlitDrumModel", "isRefused", "(I)Z"⟩) ∈ wt_ := wt_in (i := 91) (by decide +kernel) rfl
theorem m_92 : (Cond.selects "SlitDrumModel" ⟨"SlitDrumModel", "keep", "()V"⟩ ⟨"SlitDrumModel", "keep", "()V"⟩) ∈ wt_ := wt_in (i := 92) (by decide +kernel) rfl
theorem m_93 : (Cond.selects "SlitDrumModel" ⟨"SlitDrumModel", "passTick", "()V"⟩ ⟨"SlitDrumModel", "passTick", "()V"⟩) ∈ wt_ := wt_in (i := 93) (by decide +kernel) rfl
theorem m_94 : (Cond.selects "SlitDrumModel" ⟨"SlitDrumModel", "nextOf", "(III)I"⟩ ⟨"SlitDrumModel", "nextOf", "(III)I"⟩) ∈ wt_ := wt_in (i := 94) (by decide +kernel) rfl
theorem m_95 : (Cond.selects "SlitDrumModel" ⟨"SlitDrumModel", "moveBy", "(III)I"⟩ ⟨"SlitDrumModel", "moveBy", "(III)I"⟩) ∈ wt_ := wt_in (i := 95) (by decide +kernel) rfl
theorem m_96 : (Cond.selects "SlitDrumModel" ⟨"SlitDrumModel", "worthOf", "(I)I"⟩ ⟨"SlitDrumModel", "worthOf", "(I)I"⟩) ∈ wt_ := wt_in (i := 96) (by decide +kernel) rfl
theorem m_97 : (Cond.selects "SlitDrumModel" ⟨"SlitDrumModel", "workOut", "(III)I"⟩ ⟨"SlitDrumModel", "workOut", "(III)I"⟩) ∈ wt_ := wt_in (i := 97) (by decide +kernel) rfl
theorem m_98 : (Cond.selects "SlitDrumModel" ⟨"SlitDrumModel", "putLog", "()V"⟩ ⟨"SlitDrumModel", "putLog", "()V"⟩) ∈ wt_ := wt_in (i := 98) (by decide +kernel) rfl
theorem m_99 : (Cond.selects "SlitDrumModel" ⟨"SlitDrumModel", "pushNow", "(II)V"⟩ ⟨"SlitDrumModel", "pushNow", "(II)V"⟩) ∈ wt_ := wt_in (i := 99) (by decide +kernel) rfl
theorem m_100 : (Cond.selects "SlitDrumModel" ⟨"SlitDrumModel", "drawTick", "()V"⟩ ⟨"SlitDrumModel", "drawTick", "()V"⟩) ∈ wt_ := wt_in (i := 100) (by decide +kernel) rfl
theorem m_101 : (Cond.selects "SlitDrumModel" ⟨"SlitDrumModel", "draw", "(I)I"⟩ ⟨"SlitDrumModel", "draw", "(I)I"⟩) ∈ wt_ := wt_in (i := 101) (by decide +kernel) rfl
theorem m_102 : (Cond.selects "SlitDrumModel" ⟨"SlitDrumModel", "placeBehind", "(II)I"⟩ ⟨"SlitDrumModel", "placeBehind", "(II)I"⟩) ∈ wt_ := wt_in (i := 102) (by decide +kernel) rfl
theorem m_103 : (Cond.selects "SlitDrumModel" ⟨"SlitDrumModel", "layTrail", "(I)V"⟩ ⟨"SlitDrumModel", "layTrail", "(I)V"⟩) ∈ wt_ := wt_in (i := 103) (by decide +kernel) rfl
theorem m_104 : (Cond.selects "SlitDrumModel" ⟨"SlitDrumModel", "standsBy", "(I)Z"⟩ ⟨"SlitDrumModel", "standsBy", "(I)Z"⟩) ∈ wt_ := wt_in (i := 104) (by decide +kernel) rfl
theorem m_105 : (Cond.selects "SlitDrumModel" ⟨"SlitDrumModel", "startSpots", "()V"⟩ ⟨"SlitDrumModel", "startSpots", "()V"⟩) ∈ wt_ := wt_in (i := 105) (by decide +kernel) rfl
theorem m_106 : (Cond.selects "SlitDrumModel" ⟨"SlitDrumModel", "goSpots", "(I)V"⟩ ⟨"SlitDrumModel", "goSpots", "(I)V"⟩) ∈ wt_ := wt_in (i := 106) (by decide +kernel) rfl
theorem m_107 : (Cond.selects "SlitDrumModel" ⟨"SlitDrumModel", "areHome", "(I)Z"⟩ ⟨"SlitDrumModel", "areHome", "(I)Z"⟩) ∈ wt_ := wt_in (i := 107) (by decide +kernel) rfl
theorem m_108 : (Cond.selects "SlitDrumModel" ⟨"SlitDrumModel", "spotShows", "(I)I"⟩ ⟨"SlitDrumModel", "spotShows", "(I)I"⟩) ∈ wt_ := wt_in (i := 108) (by decide +kernel) rfl
theorem m_109 : (Cond.selects "SlitDrumModel" ⟨"SlitDrumModel", "isAlike", "(IIZI)Z"⟩ ⟨"SlitDrumModel", "isAlike", "(IIZI)Z"⟩) ∈ wt_ := wt_in (i := 109) (by decide +kernel) rfl
theorem m_110 : (Cond.selects "SlitDrumModel" ⟨"SlitDrumModel", "turned", "(IIIZ)I"⟩ ⟨"SlitDrumModel", "turned", "(IIIZ)I"⟩) ∈ wt_ := wt_in (i := 110) (by decide +kernel) rfl
theorem m_111 : (Cond.selects "SlitDrumModel" ⟨"SlitDrumModel", "isAhead", "(III)Z"⟩ ⟨"SlitDrumModel", "isAhead", "(III)Z"⟩) ∈ wt_ := wt_in (i := 111) (by decide +kernel) rfl
theorem m_112 : (Cond.selects "SlitDrumModel" ⟨"SlitDrumModel", "alikeBy", "(IIZ)I"⟩ ⟨"SlitDrumModel", "alikeBy", "(IIZ)I"⟩) ∈ wt_ := wt_in (i := 112) (by decide +kernel) rfl
theorem m_113 : (Cond.selects "SlitDrumModel" ⟨"SlitDrumModel", "areRowsAlike", "(IIII)Z"⟩ ⟨"SlitDrumModel", "areRowsAlike", "(IIII)Z"⟩) ∈ wt_ := wt_in (i := 113) (by decide +kernel) rfl
theorem m_114 : (Cond.selects "SlitDrumModel" ⟨"SlitDrumModel", "isFit", "(III)Z"⟩ ⟨"SlitDrumModel", "isFit", "(III)Z"⟩) ∈ wt_ := wt_in (i := 114) (by decide +kernel) rfl
theorem m_115 : (Cond.selects "SlitDrumModel" ⟨"SlitDrumModel", "shownBy", "(IIII)I"⟩ ⟨"SlitDrumModel", "shownBy", "(IIII)I"⟩) ∈ wt_ := wt_in (i := 115) (by decide +kernel) rfl
theorem m_116 : (Cond.selects "SlitDrumModel" ⟨"SlitDrumModel", "gameOf", "(IIII)I"⟩ ⟨"SlitDrumModel", "gameOf", "(IIII)I"⟩) ∈ wt_ := wt_in (i := 116) (by decide +kernel) rfl
theorem m_117 : (Cond.selects "SlitDrumModel" ⟨"SlitDrumModel", "isRest", "(III)Z"⟩ ⟨"SlitDrumModel", "isRest", "(III)Z"⟩) ∈ wt_ := wt_in (i := 117) (by decide +kernel) rfl
theorem m_118 : (Cond.selects "SlitDrumModel" ⟨"SlitDrumModel", "oddsFrom", "(IIIIIII)I"⟩ ⟨"SlitDrumModel", "oddsFrom", "(IIIIIII)I"⟩) ∈ wt_ := wt_in (i := 118) (by decide +kernel) rfl
theorem m_119 : (Cond.selects "SlitDrumModel" ⟨"SlitDrumModel", "topBy", "(Z)I"⟩ ⟨"SlitDrumModel", "topBy", "(Z)I"⟩) ∈ wt_ := wt_in (i := 119) (by decide +kernel) rfl
theorem m_120 : (Cond.selects "SlitDrumModel" ⟨"SlitDrumModel", "commonest", "()I"⟩ ⟨"SlitDrumModel", "commonest", "()I"⟩) ∈ wt_ := wt_in (i := 120) (by decide +kernel) rfl
theorem m_121 : (Cond.selects "SlitDrumModel" ⟨"SlitDrumModel", "stripsWith", "(I)I"⟩ ⟨"SlitDrumModel", "stripsWith", "(I)I"⟩) ∈ wt_ := wt_in (i := 121) (by decide +kernel) rfl
theorem m_122 : (Cond.selects "SlitDrumModel" ⟨"SlitDrumModel", "shownOnes", "()I"⟩ ⟨"SlitDrumModel", "shownOnes", "()I"⟩) ∈ wt_ := wt_in (i := 122) (by decide +kernel) rfl
theorem m_123 : (Cond.selects "SlitDrumModel" ⟨"SlitDrumModel", "twins", "()I"⟩ ⟨"SlitDrumModel", "twins", "()I"⟩) ∈ wt_ := wt_in (i := 123) (by decide +kernel) rfl
theorem m_124 : (Cond.selects "SlitDrumModel" ⟨"SlitDrumModel", "orderRow", "()I"⟩ ⟨"SlitDrumModel", "orderRow", "()I"⟩) ∈ wt_ := wt_in (i := 124) (by decide +kernel) rfl
theorem m_125 : (Cond.selects "SlitDrumModel" ⟨"SlitDrumModel", "onesWho", "(I)I"⟩ ⟨"SlitDrumModel", "onesWho", "(I)I"⟩) ∈ wt_ := wt_in (i := 125) (by decide +kernel) rfl
theorem m_126 : (Jvm.Cond.initialized "SlitDrumLaw") ∈ wt_ := wt_in (i := 126) (by decide +kernel) rfl
theorem m_127 : (Jvm.Cond.initialized "SlitDrum") ∈ wt_ := wt_in (i := 127) (by decide +kernel) rfl
theorem m_128 : (Jvm.Cond.initialized "SlitDrum$Reader") ∈ wt_ := wt_in (i := 128) (by decide +kernel) rfl
theorem m_129 : (Jvm.Cond.initialized "SlitDrum$LanternReader") ∈ wt_ := wt_in (i := 129) (by decide +kernel) rfl
theorem m_130 : (Jvm.Cond.initialized "SlitDrum$LawReader") ∈ wt_ := wt_in (i := 130) (by decide +kernel) rfl
theorem m_131 : (Jvm.Cond.initialized "SlitDrum$StripReader") ∈ wt_ := wt_in (i := 131) (by decide +kernel) rfl
theorem m_132 : (Jvm.Cond.initialized "SlitDrum$Strip") ∈ wt_ := wt_in (i := 132) (by decide +kernel) rfl
theorem m_133 : (Jvm.Cond.initialized "SlitDrum$Scene") ∈ wt_ := wt_in (i := 133) (by decide +kernel) rfl
theorem m_134 : (Jvm.Cond.initialized "SlitDrum$Wheel") ∈ wt_ := wt_in (i := 134) (by decide +kernel) rfl
theorem m_135 : (Jvm.Cond.initialized "SlitDrum$Past") ∈ wt_ := wt_in (i := 135) (by decide +kernel) rfl
theorem m_136 : (Jvm.Cond.initialized "SlitDrum$Notes") ∈ wt_ := wt_in (i := 136) (by decide +kernel) rfl
theorem m_137 : (Jvm.Cond.initialized "SlitDrum$Course") ∈ wt_ := wt_in (i := 137) (by decide +kernel) rfl
theorem m_138 : (Jvm.Cond.initialized "SlitDrumModel") ∈ wt_ := wt_in (i := 138) (by decide +kernel) rfl
theorem m_139 : (Jvm.Cond.initialized "java/lang/Math") ∈ wt_ := wt_in (i := 139) (by decide +kernel) rfl
theorem m_140 : (Jvm.Cond.initialized "java/lang/System") ∈ wt_ := wt_in (i := 140) (by decide +kernel) rfl
theorem m_141 : (Jvm.Cond.initialized "java/lang/String") ∈ wt_ := wt_in (i := 141) (by decide +kernel) rfl
theorem m_142 : (Jvm.Cond.initialized "java/lang/StringLatin1") ∈ wt_ := wt_in (i := 142) (by decide +kernel) rfl
theorem m_143 : (Jvm.Cond.initialized "java/lang/StringUTF16") ∈ wt_ := wt_in (i := 143) (by decide +kernel) rfl
theorem m_144 : (Jvm.Cond.initialized "jdk/internal/util/Preconditions") ∈ wt_ := wt_in (i := 144) (by decide +kernel) rfl
theorem m_145 : (Jvm.Cond.initialized "java/lang/Character") ∈ wt_ := wt_in (i := 145) (by decide +kernel) rfl
theorem m_146 : (Jvm.Cond.initialized "SlitDrum$Law") ∈ wt_ := wt_in (i := 146) (by decide +kernel) rfl
theorem m_147 : (Jvm.Cond.initialized "java/util/Arrays") ∈ wt_ := wt_in (i := 147) (by decide +kernel) rfl
theorem m_152 : (Jvm.Cond.initialized "java/lang/Integer") ∈ wt_ := wt_in (i := 152) (by decide +kernel) rfl
theorem m_153 : (Jvm.Cond.classLink "SlitDrumLaw" (8 : Nat) "SlitDrum") ∈ wt_ := wt_in (i := 153) (by decide +kernel) rfl
theorem m_154 : (Jvm.Cond.instantiable "SlitDrum" (20 : Nat)) ∈ wt_ := wt_in (i := 154) (by decide +kernel) rfl
theorem m_155 : (Jvm.Cond.methodLink "SlitDrumLaw" (15 : Nat) ({ cls := "SlitDrum", name := "<init>", desc := "()V" } : Jvm.MethodName)) ∈ wt_ := wt_in (i := 155) (by decide +kernel) rfl
theorem m_156 : (Jvm.Cond.instanceMethod ({ cls := "SlitDrum", name := "<init>", desc := "()V" } : Jvm.MethodName)) ∈ wt_ := wt_in (i := 156) (by decide +kernel) rfl
theorem m_157 : (Jvm.Cond.code ({ cls := "SlitDrum", name := "<init>", desc := "()V" } : Jvm.MethodName) prog_1_method_1_code (2 : Nat) (Option.none : Option Jvm.ClassFile.FieldType)) ∈ wt_ := wt_in (i := 157) (by decide +kernel) rfl
theorem m_158 : (Jvm.Cond.methodLink "SlitDrum" (1 : Nat) ({ cls := "java/lang/Object", name := "<init>", desc := "()V" } : Jvm.MethodName)) ∈ wt_ := wt_in (i := 158) (by decide +kernel) rfl
theorem m_161 : (Jvm.Cond.classLink "SlitDrum" (17 : Nat) "SlitDrum$LanternReader") ∈ wt_ := wt_in (i := 161) (by decide +kernel) rfl
theorem m_162 : (Jvm.Cond.instantiable "SlitDrum$LanternReader" (7 : Nat)) ∈ wt_ := wt_in (i := 162) (by decide +kernel) rfl
theorem m_164 : (Jvm.Cond.instanceMethod ({ cls := "SlitDrum$LanternReader", name := "<init>", desc := "()V" } : Jvm.MethodName)) ∈ wt_ := wt_in (i := 164) (by decide +kernel) rfl
theorem m_165 : (Jvm.Cond.code ({ cls := "SlitDrum$LanternReader", name := "<init>", desc := "()V" } : Jvm.MethodName) prog_3_method_1_code (1 : Nat) (Option.none : Option Jvm.ClassFile.FieldType)) ∈ wt_ := wt_in (i := 165) (by decide +kernel) rfl
theorem m_167 : (Jvm.Cond.instanceMethod ({ cls := "SlitDrum$Reader", name := "<init>", desc := "()V" } : Jvm.MethodName)) ∈ wt_ := wt_in (i := 167) (by decide +kernel) rfl
theorem m_168 : (Jvm.Cond.code ({ cls := "SlitDrum$Reader", name := "<init>", desc := "()V" } : Jvm.MethodName) prog_8_method_1_code (1 : Nat) (Option.none : Option Jvm.ClassFile.FieldType)) ∈ wt_ := wt_in (i := 168) (by decide +kernel) rfl
theorem m_169 : (Jvm.Cond.methodLink "SlitDrum$Reader" (3 : Nat) ({ cls := "java/lang/Object", name := "<init>", desc := "()V" } : Jvm.MethodName)) ∈ wt_ := wt_in (i := 169) (by decide +kernel) rfl
theorem m_170 : (Jvm.Cond.fieldLink "SlitDrum$LanternReader" (9 : Nat) "SlitDrum$LanternReader" "rules" "[I") ∈ wt_ := wt_in (i := 170) (by decide +kernel) rfl
theorem m_171 : (Jvm.Cond.fieldLink "SlitDrum$LanternReader" (15 : Nat) "SlitDrum$LanternReader" "hasRules" "Z") ∈ wt_ := wt_in (i := 171) (by decide +kernel) rfl
theorem m_172 : (Jvm.Cond.fieldLink "SlitDrum$LanternReader" (19 : Nat) "SlitDrum$LanternReader" "traits" "[I") ∈ wt_ := wt_in (i := 172) (by decide +kernel) rfl
theorem m_173 : (Jvm.Cond.fieldLink "SlitDrum$LanternReader" (22 : Nat) "SlitDrum$LanternReader" "wheels" "I") ∈ wt_ := wt_in (i := 173) (by decide +kernel) rfl
theorem m_174 : (Jvm.Cond.fieldLink "SlitDrum$Reader" (9 : Nat) "SlitDrum$Reader" "signs" "[I") ∈ wt_ := wt_in (i := 174) (by decide +kernel) rfl
theorem m_175 : (Jvm.Cond.fieldLink "SlitDrum$Reader" (15 : Nat) "SlitDrum$Reader" "length" "I") ∈ wt_ := wt_in (i := 175) (by decide +kernel) rfl
theorem m_176 : (Jvm.Cond.fieldLink "SlitDrum$Reader" (19 : Nat) "SlitDrum$Reader" "here" "I") ∈ wt_ := wt_in (i := 176) (by decide +kernel) rfl
theorem m_177 : (Jvm.Cond.fieldLink "SlitDrum$StripReader" (23 : Nat) "SlitDrum$StripReader" "here" "I") ∈ wt_ := wt_in (i := 177) (by decide +kernel) rfl
theorem m_178 : (Jvm.Cond.sameField "SlitDrum$StripReader" "SlitDrum$Reader" "here" "I") ∈ wt_ := wt_in (i := 178) (by decide +kernel) rfl
theorem m_179 : (Jvm.Cond.fieldLink "SlitDrum$LanternReader" (79 : Nat) "SlitDrum$LanternReader" "here" "I") ∈ wt_ := wt_in (i := 179) (by decide +kernel) rfl
theorem m_180 : (Jvm.Cond.sameField "SlitDrum$LanternReader" "SlitDrum$Reader" "here" "I") ∈ wt_ := wt_in (i := 180) (by decide +kernel) rfl
theorem m_181 : (Jvm.Cond.fieldLink "SlitDrum" (129 : Nat) "SlitDrum$Reader" "here" "I") ∈ wt_ := wt_in (i := 181) (by decide +kernel) rfl
theorem m_182 : (Jvm.Cond.fieldLink "SlitDrum$LawReader" (74 : Nat) "SlitDrum$LawReader" "here" "I") ∈ wt_ := wt_in (i := 182) (by decide +kernel) rfl
theorem m_183 : (Jvm.Cond.sameField "SlitDrum$LawReader" "SlitDrum$Reader" "here" "I") ∈ wt_ := wt_in (i := 183) (by decide +kernel) rfl
theorem m_199 : (Jvm.Cond.arrayClass Jvm.ClassFile.FieldType.int) ∈ wt_ := wt_in (i := 199) (by decide +kernel) rfl
theorem m_200 : (Jvm.Cond.classLink "SlitDrum" (24 : Nat) "SlitDrum$LawReader") ∈ wt_ := wt_in (i := 200) (by decide +kernel) rfl
theorem m_201 : (Jvm.Cond.instantiable "SlitDrum$LawReader" (5 : Nat)) ∈ wt_ := wt_in (i := 201) (by decide +kernel) rfl
theorem m_203 : (Jvm.Cond.instanceMethod ({ cls := "SlitDrum$LawReader", name := "<init>", desc := "()V" } : Jvm.MethodName)) ∈ wt_ := wt_in (i := 203) (by decide +kernel) rfl
theorem m_204 : (Jvm.Cond.code ({ cls := "SlitDrum$LawReader", name := "<init>", desc := "()V" } : Jvm.MethodName) prog_5_method_1_code (1 : Nat) (Option.none : Option Jvm.ClassFile.FieldType)) ∈ wt_ := wt_in (i := 204) (by decide +kernel) rfl
theorem m_206 : (Jvm.Cond.fieldLink "SlitDrum$LawReader" (9 : Nat) "SlitDrum$LawReader" "codes" "[I") ∈ wt_ := wt_in (i := 206) (by decide +kernel) rfl
theorem m_207 : (Jvm.Cond.fieldLink "SlitDrum$LawReader" (15 : Nat) "SlitDrum$LawReader" "size" "I") ∈ wt_ := wt_in (i := 207) (by decide +kernel) rfl
theorem m_216 : (Jvm.Cond.classLink "SlitDrum" (31 : Nat) "SlitDrum$StripReader") ∈ wt_ := wt_in (i := 216) (by decide +kernel) rfl
theorem m_217 : (Jvm.Cond.instantiable "SlitDrum$StripReader" (5 : Nat)) ∈ wt_ := wt_in (i := 217) (by decide +kernel) rfl
theorem m_219 : (Jvm.Cond.instanceMethod ({ cls := "SlitDrum$StripReader", name := "<init>", desc := "()V" } : Jvm.MethodName)) ∈ wt_ := wt_in (i := 219) (by decide +kernel) rfl
theorem m_220 : (Jvm.Cond.code ({ cls := "SlitDrum$StripReader", name := "<init>", desc := "()V" } : Jvm.MethodName) prog_11_method_1_code (1 : Nat) (Option.none : Option Jvm.ClassFile.FieldType)) ∈ wt_ := wt_in (i := 220) (by decide +kernel) rfl
theorem m_222 : (Jvm.Cond.fieldLink "SlitDrum$StripReader" (9 : Nat) "SlitDrum$StripReader" "pictures" "[I") ∈ wt_ := wt_in (i := 222) (by decide +kernel) rfl
theorem m_223 : (Jvm.Cond.fieldLink "SlitDrum$StripReader" (15 : Nat) "SlitDrum$StripReader" "size" "I") ∈ wt_ := wt_in (i := 223) (by decide +kernel) rfl
theorem m_232 : (Jvm.Cond.classLink "SlitDrum" (38 : Nat) "SlitDrum$Law") ∈ wt_ := wt_in (i := 232) (by decide +kernel) rfl
theorem m_234 : (Jvm.Cond.classLink "SlitDrum" (50 : Nat) "SlitDrum$Strip") ∈ wt_ := wt_in (i := 234) (by decide +kernel) rfl
theorem m_236 : (Jvm.Cond.instantiable "SlitDrum$Strip" (1 : Nat)) ∈ wt_ := wt_in (i := 236) (by decide +kernel) rfl
theorem m_237 : (Jvm.Cond.methodLink "SlitDrum" (59 : Nat) ({ cls := "SlitDrum$Strip", name := "<init>", desc := "([I)V" } : Jvm.MethodName)) ∈ wt_ := wt_in (i := 237) (by decide +kernel) rfl
theorem m_238 : (Jvm.Cond.instanceMethod ({ cls := "SlitDrum$Strip", name := "<init>", desc := "([I)V" } : Jvm.MethodName)) ∈ wt_ := wt_in (i := 238) (by decide +kernel) rfl
theorem m_239 : (Jvm.Cond.code ({ cls := "SlitDrum$Strip", name := "<init>", desc := "([I)V" } : Jvm.MethodName) prog_10_method_1_code (2 : Nat) (Option.none : Option Jvm.ClassFile.FieldType)) ∈ wt_ := wt_in (i := 239) (by decide +kernel) rfl
theorem m_240 : (Jvm.Cond.methodLink "SlitDrum$Strip" (3 : Nat) ({ cls := "java/lang/Object", name := "<init>", desc := "()V" } : Jvm.MethodName)) ∈ wt_ := wt_in (i := 240) (by decide +kernel) rfl
theorem m_241 : (Jvm.Cond.fieldLink "SlitDrum$Strip" (9 : Nat) "SlitDrum$Strip" "pictures" "[I") ∈ wt_ := wt_in (i := 241) (by decide +kernel) rfl
theorem m_245 : (Jvm.Cond.classLink "SlitDrum" (72 : Nat) "SlitDrum$Scene") ∈ wt_ := wt_in (i := 245) (by decide +kernel) rfl
theorem m_246 : (Jvm.Cond.instantiable "SlitDrum$Scene" (8 : Nat)) ∈ wt_ := wt_in (i := 246) (by decide +kernel) rfl
theorem m_247 : (Jvm.Cond.methodLink "SlitDrum" (74 : Nat) ({ cls := "SlitDrum$Scene", name := "<init>", desc := "()V" } : Jvm.MethodName)) ∈ wt_ := wt_in (i := 247) (by decide +kernel) rfl
theorem m_248 : (Jvm.Cond.instanceMethod ({ cls := "SlitDrum$Scene", name := "<init>", desc := "()V" } : Jvm.MethodName)) ∈ wt_ := wt_in (i := 248) (by decide +kernel) rfl
theorem m_249 : (Jvm.Cond.code ({ cls := "SlitDrum$Scene", name := "<init>", desc := "()V" } : Jvm.MethodName) prog_9_method_1_code (2 : Nat) (Option.none : Option Jvm.ClassFile.FieldType)) ∈ wt_ := wt_in (i := 249) (by decide +kernel) rfl
theorem m_250 : (Jvm.Cond.methodLink "SlitDrum$Scene" (3 : Nat) ({ cls := "java/lang/Object", name := "<init>", desc := "()V" } : Jvm.MethodName)) ∈ wt_ := wt_in (i := 250) (by decide +kernel) rfl
theorem m_251 : (Jvm.Cond.classLink "SlitDrum$Scene" (9 : Nat) "SlitDrum$Wheel") ∈ wt_ := wt_in (i := 251) (by decide +kernel) rfl
theorem m_253 : (Jvm.Cond.instantiable "SlitDrum$Wheel" (4 : Nat)) ∈ wt_ := wt_in (i := 253) (by decide +kernel) rfl
theorem m_255 : (Jvm.Cond.instanceMethod ({ cls := "SlitDrum$Wheel", name := "<init>", desc := "()V" } : Jvm.MethodName)) ∈ wt_ := wt_in (i := 255) (by decide +kernel) rfl
theorem m_256 : (Jvm.Cond.code ({ cls := "SlitDrum$Wheel", name := "<init>", desc := "()V" } : Jvm.MethodName) prog_12_method_1_code (1 : Nat) (Option.none : Option Jvm.ClassFile.FieldType)) ∈ wt_ := wt_in (i := 256) (by decide +kernel) rfl
theorem m_257 : (Jvm.Cond.methodLink "SlitDrum$Wheel" (1 : Nat) ({ cls := "java/lang/Object", name := "<init>", desc := "()V" } : Jvm.MethodName)) ∈ wt_ := wt_in (i := 257) (by decide +kernel) rfl
theorem m_258 : (Jvm.Cond.fieldLink "SlitDrum$Wheel" (7 : Nat) "SlitDrum$Wheel" "speed" "I") ∈ wt_ := wt_in (i := 258) (by decide +kernel) rfl
theorem m_259 : (Jvm.Cond.fieldLink "SlitDrum$LanternReader" (109 : Nat) "SlitDrum$Wheel" "speed" "I") ∈ wt_ := wt_in (i := 259) (by decide +kernel) rfl
theorem m_260 : (Jvm.Cond.fieldLink "SlitDrum" (206 : Nat) "SlitDrum$Wheel" "speed" "I") ∈ wt_ := wt_in (i := 260) (by decide +kernel) rfl
theorem m_261 : (Jvm.Cond.fieldLink "SlitDrum$Wheel" (13 : Nat) "SlitDrum$Wheel" "isBack" "Z") ∈ wt_ := wt_in (i := 261) (by decide +kernel) rfl
theorem m_262 : (Jvm.Cond.fieldLink "SlitDrum$LanternReader" (114 : Nat) "SlitDrum$Wheel" "isBack" "Z") ∈ wt_ := wt_in (i := 262) (by decide +kernel) rfl
theorem m_263 : (Jvm.Cond.fieldLink "SlitDrum" (209 : Nat) "SlitDrum$Wheel" "isBack" "Z") ∈ wt_ := wt_in (i := 263) (by decide +kernel) rfl
theorem m_264 : (Jvm.Cond.fieldLink "SlitDrum$Wheel" (17 : Nat) "SlitDrum$Wheel" "place" "I") ∈ wt_ := wt_in (i := 264) (by decide +kernel) rfl
theorem m_265 : (Jvm.Cond.fieldLink "SlitDrum$Course" (55 : Nat) "SlitDrum$Wheel" "place" "I") ∈ wt_ := wt_in (i := 265) (by decide +kernel) rfl
theorem m_266 : (Jvm.Cond.fieldLink "SlitDrum$LanternReader" (117 : Nat) "SlitDrum$Wheel" "place" "I") ∈ wt_ := wt_in (i := 266) (by decide +kernel) rfl
theorem m_267 : (Jvm.Cond.fieldLink "SlitDrum" (157 : Nat) "SlitDrum$Wheel" "place" "I") ∈ wt_ := wt_in (i := 267) (by decide +kernel) rfl
theorem m_268 : (Jvm.Cond.fieldLink "SlitDrum$Wheel" (20 : Nat) "SlitDrum$Wheel" "number" "I") ∈ wt_ := wt_in (i := 268) (by decide +kernel) rfl
theorem m_269 : (Jvm.Cond.fieldLink "SlitDrum$LanternReader" (120 : Nat) "SlitDrum$Wheel" "number" "I") ∈ wt_ := wt_in (i := 269) (by decide +kernel) rfl
theorem m_270 : (Jvm.Cond.fieldLink "SlitDrum" (212 : Nat) "SlitDrum$Wheel" "number" "I") ∈ wt_ := wt_in (i := 270) (by decide +kernel) rfl
theorem m_280 : (Jvm.Cond.fieldLink "SlitDrum$Scene" (11 : Nat) "SlitDrum$Scene" "wheels" "[LSlitDrum$Wheel;") ∈ wt_ := wt_in (i := 280) (by decide +kernel) rfl
theorem m_281 : (Jvm.Cond.fieldLink "SlitDrum$LanternReader" (106 : Nat) "SlitDrum$Scene" "wheels" "[LSlitDrum$Wheel;") ∈ wt_ := wt_in (i := 281) (by decide +kernel) rfl
theorem m_282 : (Jvm.Cond.fieldLink "SlitDrum" (153 : Nat) "SlitDrum$Scene" "wheels" "[LSlitDrum$Wheel;") ∈ wt_ := wt_in (i := 282) (by decide +kernel) rfl
theorem m_283 : (Jvm.Cond.fieldLink "SlitDrum$Scene" (17 : Nat) "SlitDrum$Scene" "wheelCount" "I") ∈ wt_ := wt_in (i := 283) (by decide +kernel) rfl
theorem m_284 : (Jvm.Cond.fieldLink "SlitDrum$LanternReader" (103 : Nat) "SlitDrum$Scene" "wheelCount" "I") ∈ wt_ := wt_in (i := 284) (by decide +kernel) rfl
theorem m_285 : (Jvm.Cond.fieldLink "SlitDrum" (150 : Nat) "SlitDrum$Scene" "wheelCount" "I") ∈ wt_ := wt_in (i := 285) (by decide +kernel) rfl
theorem m_286 : (Jvm.Cond.fieldLink "SlitDrum$Scene" (21 : Nat) "SlitDrum$Scene" "flash" "I") ∈ wt_ := wt_in (i := 286) (by decide +kernel) rfl
theorem m_287 : (Jvm.Cond.fieldLink "SlitDrum$LanternReader" (86 : Nat) "SlitDrum$Scene" "flash" "I") ∈ wt_ := wt_in (i := 287) (by decide +kernel) rfl
theorem m_288 : (Jvm.Cond.fieldLink "SlitDrum" (186 : Nat) "SlitDrum$Scene" "flash" "I") ∈ wt_ := wt_in (i := 288) (by decide +kernel) rfl
theorem m_289 : (Jvm.Cond.fieldLink "SlitDrum$Scene" (24 : Nat) "SlitDrum$Scene" "oil" "I") ∈ wt_ := wt_in (i := 289) (by decide +kernel) rfl
theorem m_290 : (Jvm.Cond.fieldLink "SlitDrum$LanternReader" (91 : Nat) "SlitDrum$Scene" "oil" "I") ∈ wt_ := wt_in (i := 290) (by decide +kernel) rfl
theorem m_291 : (Jvm.Cond.fieldLink "SlitDrum" (189 : Nat) "SlitDrum$Scene" "oil" "I") ∈ wt_ := wt_in (i := 291) (by decide +kernel) rfl
theorem m_292 : (Jvm.Cond.fieldLink "SlitDrum$Scene" (27 : Nat) "SlitDrum$Scene" "coins" "I") ∈ wt_ := wt_in (i := 292) (by decide +kernel) rfl
theorem m_293 : (Jvm.Cond.fieldLink "SlitDrum$LanternReader" (94 : Nat) "SlitDrum$Scene" "coins" "I") ∈ wt_ := wt_in (i := 293) (by decide +kernel) rfl
theorem m_294 : (Jvm.Cond.fieldLink "SlitDrum" (192 : Nat) "SlitDrum$Scene" "coins" "I") ∈ wt_ := wt_in (i := 294) (by decide +kernel) rfl
theorem m_295 : (Jvm.Cond.fieldLink "SlitDrum$Scene" (30 : Nat) "SlitDrum$Scene" "tick" "I") ∈ wt_ := wt_in (i := 295) (by decide +kernel) rfl
theorem m_296 : (Jvm.Cond.fieldLink "SlitDrum$LanternReader" (97 : Nat) "SlitDrum$Scene" "tick" "I") ∈ wt_ := wt_in (i := 296) (by decide +kernel) rfl
theorem m_297 : (Jvm.Cond.fieldLink "SlitDrum" (230 : Nat) "SlitDrum$Scene" "tick" "I") ∈ wt_ := wt_in (i := 297) (by decide +kernel) rfl
theorem m_298 : (Jvm.Cond.fieldLink "SlitDrum$Scene" (33 : Nat) "SlitDrum$Scene" "rowRing" "[I") ∈ wt_ := wt_in (i := 298) (by decide +kernel) rfl
theorem m_299 : (Jvm.Cond.fieldLink "SlitDrum$Scene" (37 : Nat) "SlitDrum$Scene" "rowsEver" "I") ∈ wt_ := wt_in (i := 299) (by decide +kernel) rfl
theorem m_300 : (Jvm.Cond.fieldLink "SlitDrum$LanternReader" (100 : Nat) "SlitDrum$Scene" "rowsEver" "I") ∈ wt_ := wt_in (i := 300) (by decide +kernel) rfl
theorem m_318 : (Jvm.Cond.classLink "SlitDrum" (79 : Nat) "SlitDrum$Past") ∈ wt_ := wt_in (i := 318) (by decide +kernel) rfl
theorem m_319 : (Jvm.Cond.instantiable "SlitDrum$Past" (3 : Nat)) ∈ wt_ := wt_in (i := 319) (by decide +kernel) rfl
theorem m_320 : (Jvm.Cond.methodLink "SlitDrum" (81 : Nat) ({ cls := "SlitDrum$Past", name := "<init>", desc := "()V" } : Jvm.MethodName)) ∈ wt_ := wt_in (i := 320) (by decide +kernel) rfl
theorem m_321 : (Jvm.Cond.instanceMethod ({ cls := "SlitDrum$Past", name := "<init>", desc := "()V" } : Jvm.MethodName)) ∈ wt_ := wt_in (i := 321) (by decide +kernel) rfl
theorem m_322 : (Jvm.Cond.code ({ cls := "SlitDrum$Past", name := "<init>", desc := "()V" } : Jvm.MethodName) prog_7_method_1_code (2 : Nat) (Option.none : Option Jvm.ClassFile.FieldType)) ∈ wt_ := wt_in (i := 322) (by decide +kernel) rfl
theorem m_323 : (Jvm.Cond.methodLink "SlitDrum$Past" (3 : Nat) ({ cls := "java/lang/Object", name := "<init>", desc := "()V" } : Jvm.MethodName)) ∈ wt_ := wt_in (i := 323) (by decide +kernel) rfl
theorem m_324 : (Jvm.Cond.classLink "SlitDrum$Past" (9 : Nat) "SlitDrum$Scene") ∈ wt_ := wt_in (i := 324) (by decide +kernel) rfl
theorem m_326 : (Jvm.Cond.methodLink "SlitDrum$Past" (24 : Nat) ({ cls := "SlitDrum$Scene", name := "<init>", desc := "()V" } : Jvm.MethodName)) ∈ wt_ := wt_in (i := 326) (by decide +kernel) rfl
theorem m_327 : (Jvm.Cond.fieldLink "SlitDrum$Past" (11 : Nat) "SlitDrum$Past" "scenes" "[LSlitDrum$Scene;") ∈ wt_ := wt_in (i := 327) (by decide +kernel) rfl
theorem m_328 : (Jvm.Cond.fieldLink "SlitDrum$Past" (17 : Nat) "SlitDrum$Past" "next" "I") ∈ wt_ := wt_in (i := 328) (by decide +kernel) rfl
theorem m_329 : (Jvm.Cond.fieldLink "SlitDrum$Past" (21 : Nat) "SlitDrum$Past" "size" "I") ∈ wt_ := wt_in (i := 329) (by decide +kernel) rfl
theorem m_330 : (Jvm.Cond.fieldLink "SlitDrum" (420 : Nat) "SlitDrum$Past" "size" "I") ∈ wt_ := wt_in (i := 330) (by decide +kernel) rfl
theorem m_338 : (Jvm.Cond.classLink "SlitDrum" (93 : Nat) "SlitDrum$Notes") ∈ wt_ := wt_in (i := 338) (by decide +kernel) rfl
theorem m_339 : (Jvm.Cond.instantiable "SlitDrum$Notes" (7 : Nat)) ∈ wt_ := wt_in (i := 339) (by decide +kernel) rfl
theorem m_341 : (Jvm.Cond.instanceMethod ({ cls := "SlitDrum$Notes", name := "<init>", desc := "()V" } : Jvm.MethodName)) ∈ wt_ := wt_in (i := 341) (by decide +kernel) rfl
theorem m_342 : (Jvm.Cond.code ({ cls := "SlitDrum$Notes", name := "<init>", desc := "()V" } : Jvm.MethodName) prog_6_method_1_code (1 : Nat) (Option.none : Option Jvm.ClassFile.FieldType)) ∈ wt_ := wt_in (i := 342) (by decide +kernel) rfl
theorem m_343 : (Jvm.Cond.methodLink "SlitDrum$Notes" (3 : Nat) ({ cls := "java/lang/Object", name := "<init>", desc := "()V" } : Jvm.MethodName)) ∈ wt_ := wt_in (i := 343) (by decide +kernel) rfl
theorem m_344 : (Jvm.Cond.fieldLink "SlitDrum$Notes" (9 : Nat) "SlitDrum$Notes" "noteTicks" "[I") ∈ wt_ := wt_in (i := 344) (by decide +kernel) rfl
theorem m_345 : (Jvm.Cond.fieldLink "SlitDrum$Notes" (15 : Nat) "SlitDrum$Notes" "notePictures" "[I") ∈ wt_ := wt_in (i := 345) (by decide +kernel) rfl
theorem m_346 : (Jvm.Cond.fieldLink "SlitDrum$Notes" (18 : Nat) "SlitDrum$Notes" "noteIs" "[Z") ∈ wt_ := wt_in (i := 346) (by decide +kernel) rfl
theorem m_347 : (Jvm.Cond.fieldLink "SlitDrum$Notes" (22 : Nat) "SlitDrum$Notes" "size" "I") ∈ wt_ := wt_in (i := 347) (by decide +kernel) rfl
theorem m_348 : (Jvm.Cond.fieldLink "SlitDrum" (418 : Nat) "SlitDrum$Notes" "size" "I") ∈ wt_ := wt_in (i := 348) (by decide +kernel) rfl
theorem m_349 : (Jvm.Cond.fieldLink "SlitDrum$Notes" (26 : Nat) "SlitDrum$Notes" "finds" "[I") ∈ wt_ := wt_in (i := 349) (by decide +kernel) rfl
theorem m_350 : (Jvm.Cond.fieldLink "SlitDrum$Notes" (29 : Nat) "SlitDrum$Notes" "found" "I") ∈ wt_ := wt_in (i := 350) (by decide +kernel) rfl
theorem m_351 : (Jvm.Cond.fieldLink "SlitDrum" (348 : Nat) "SlitDrum$Notes" "found" "I") ∈ wt_ := wt_in (i := 351) (by decide +kernel) rfl
theorem m_352 : (Jvm.Cond.fieldLink "SlitDrum$Notes" (32 : Nat) "SlitDrum$Notes" "showing" "[I") ∈ wt_ := wt_in (i := 352) (by decide +kernel) rfl
theorem m_368 : (Jvm.Cond.arrayClass Jvm.ClassFile.FieldType.boolean) ∈ wt_ := wt_in (i := 368) (by decide +kernel) rfl
theorem m_369 : (Jvm.Cond.classLink "SlitDrum" (100 : Nat) "SlitDrum$Course") ∈ wt_ := wt_in (i := 369) (by decide +kernel) rfl
theorem m_371 : (Jvm.Cond.instantiable "SlitDrum$Course" (10 : Nat)) ∈ wt_ := wt_in (i := 371) (by decide +kernel) rfl
theorem m_373 : (Jvm.Cond.instanceMethod ({ cls := "SlitDrum$Course", name := "<init>", desc := "()V" } : Jvm.MethodName)) ∈ wt_ := wt_in (i := 373) (by decide +kernel) rfl
theorem m_374 : (Jvm.Cond.code ({ cls := "SlitDrum$Course", name := "<init>", desc := "()V" } : Jvm.MethodName) prog_2_method_1_code (1 : Nat) (Option.none : Option Jvm.ClassFile.FieldType)) ∈ wt_ := wt_in (i := 374) (by decide +kernel) rfl
theorem m_375 : (Jvm.Cond.methodLink "SlitDrum$Course" (3 : Nat) ({ cls := "java/lang/Object", name := "<init>", desc := "()V" } : Jvm.MethodName)) ∈ wt_ := wt_in (i := 375) (by decide +kernel) rfl
theorem m_376 : (Jvm.Cond.classLink "SlitDrum$Course" (18 : Nat) "SlitDrum$Strip") ∈ wt_ := wt_in (i := 376) (by decide +kernel) rfl
theorem m_377 : (Jvm.Cond.methodLink "SlitDrum$Course" (20 : Nat) ({ cls := "SlitDrum$Strip", name := "<init>", desc := "([I)V" } : Jvm.MethodName)) ∈ wt_ := wt_in (i := 377) (by decide +kernel) rfl
theorem m_378 : (Jvm.Cond.fieldLink "SlitDrum$Course" (9 : Nat) "SlitDrum$Course" "velocity" "I") ∈ wt_ := wt_in (i := 378) (by decide +kernel) rfl
theorem m_379 : (Jvm.Cond.fieldLink "SlitDrum$Course" (15 : Nat) "SlitDrum$Course" "home" "I") ∈ wt_ := wt_in (i := 379) (by decide +kernel) rfl
theorem m_380 : (Jvm.Cond.fieldLink "SlitDrum$Course" (23 : Nat) "SlitDrum$Course" "strip" "LSlitDrum$Strip;") ∈ wt_ := wt_in (i := 380) (by decide +kernel) rfl
theorem m_381 : (Jvm.Cond.fieldLink "SlitDrum$Course" (27 : Nat) "SlitDrum$Course" "law" "LSlitDrum$Law;") ∈ wt_ := wt_in (i := 381) (by decide +kernel) rfl
theorem m_382 : (Jvm.Cond.fieldLink "SlitDrum$Course" (31 : Nat) "SlitDrum$Course" "tick" "I") ∈ wt_ := wt_in (i := 382) (by decide +kernel) rfl
theorem m_383 : (Jvm.Cond.fieldLink "SlitDrum$Course" (34 : Nat) "SlitDrum$Course" "letters" "[I") ∈ wt_ := wt_in (i := 383) (by decide +kernel) rfl
theorem m_384 : (Jvm.Cond.fieldLink "SlitDrum$Course" (38 : Nat) "SlitDrum$Course" "path" "[I") ∈ wt_ := wt_in (i := 384) (by decide +kernel) rfl
theorem m_385 : (Jvm.Cond.fieldLink "SlitDrum$Course" (41 : Nat) "SlitDrum$Course" "firstStep" "[I") ∈ wt_ := wt_in (i := 385) (by decide +kernel) rfl
theorem m_386 : (Jvm.Cond.fieldLink "SlitDrum$Course" (44 : Nat) "SlitDrum$Course" "steps" "I") ∈ wt_ := wt_in (i := 386) (by decide +kernel) rfl
theorem m_387 : (Jvm.Cond.fieldLink "SlitDrum$Course" (47 : Nat) "SlitDrum$Course" "loopStart" "I") ∈ wt_ := wt_in (i := 387) (by decide +kernel) rfl
theorem m_409 : (Jvm.Cond.fieldLink "SlitDrum" (9 : Nat) "SlitDrum" "tape" "[I") ∈ wt_ := wt_in (i := 409) (by decide +kernel) rfl
theorem m_410 : (Jvm.Cond.fieldLink "SlitDrum" (13 : Nat) "SlitDrum" "tapeSize" "I") ∈ wt_ := wt_in (i := 410) (by decide +kernel) rfl
theorem m_411 : (Jvm.Cond.fieldLink "SlitDrum" (20 : Nat) "SlitDrum" "lanternReader" "LSlitDrum$LanternReader;") ∈ wt_ := wt_in (i := 411) (by decide +kernel) rfl
theorem m_412 : (Jvm.Cond.fieldLink "SlitDrum" (27 : Nat) "SlitDrum" "lawReader" "LSlitDrum$LawReader;") ∈ wt_ := wt_in (i := 412) (by decide +kernel) rfl
theorem m_413 : (Jvm.Cond.fieldLink "SlitDrum" (34 : Nat) "SlitDrum" "stripReader" "LSlitDrum$StripReader;") ∈ wt_ := wt_in (i := 413) (by decide +kernel) rfl
theorem m_414 : (Jvm.Cond.fieldLink "SlitDrum" (40 : Nat) "SlitDrum" "laws" "[LSlitDrum$Law;") ∈ wt_ := wt_in (i := 414) (by decide +kernel) rfl
theorem m_415 : (Jvm.Cond.fieldLink "SlitDrum" (44 : Nat) "SlitDrum" "lawCount" "I") ∈ wt_ := wt_in (i := 415) (by decide +kernel) rfl
theorem m_416 : (Jvm.Cond.fieldLink "SlitDrum" (47 : Nat) "SlitDrum" "holding" "I") ∈ wt_ := wt_in (i := 416) (by decide +kernel) rfl
theorem m_417 : (Jvm.Cond.fieldLink "SlitDrum" (52 : Nat) "SlitDrum" "strips" "[LSlitDrum$Strip;") ∈ wt_ := wt_in (i := 417) (by decide +kernel) rfl
theorem m_418 : (Jvm.Cond.fieldLink "SlitDrum" (56 : Nat) "SlitDrum" "stripCount" "I") ∈ wt_ := wt_in (i := 418) (by decide +kernel) rfl
theorem m_419 : (Jvm.Cond.fieldLink "SlitDrum" (62 : Nat) "SlitDrum" "bare" "LSlitDrum$Strip;") ∈ wt_ := wt_in (i := 419) (by decide +kernel) rfl
theorem m_420 : (Jvm.Cond.fieldLink "SlitDrum" (66 : Nat) "SlitDrum" "touchBelow" "I") ∈ wt_ := wt_in (i := 420) (by decide +kernel) rfl
theorem m_421 : (Jvm.Cond.fieldLink "SlitDrum" (69 : Nat) "SlitDrum" "refusals" "[I") ∈ wt_ := wt_in (i := 421) (by decide +kernel) rfl
theorem m_422 : (Jvm.Cond.fieldLink "SlitDrum" (75 : Nat) "SlitDrum" "scene" "LSlitDrum$Scene;") ∈ wt_ := wt_in (i := 422) (by decide +kernel) rfl
theorem m_423 : (Jvm.Cond.fieldLink "SlitDrum" (82 : Nat) "SlitDrum" "past" "LSlitDrum$Past;") ∈ wt_ := wt_in (i := 423) (by decide +kernel) rfl
theorem m_424 : (Jvm.Cond.fieldLink "SlitDrum" (86 : Nat) "SlitDrum" "kept" "LSlitDrum$Scene;") ∈ wt_ := wt_in (i := 424) (by decide +kernel) rfl
theorem m_425 : (Jvm.Cond.fieldLink "SlitDrum" (89 : Nat) "SlitDrum" "hasImage" "Z") ∈ wt_ := wt_in (i := 425) (by decide +kernel) rfl
theorem m_426 : (Jvm.Cond.fieldLink "SlitDrum" (96 : Nat) "SlitDrum" "notes" "LSlitDrum$Notes;") ∈ wt_ := wt_in (i := 426) (by decide +kernel) rfl
theorem m_427 : (Jvm.Cond.fieldLink "SlitDrum" (102 : Nat) "SlitDrum" "courses" "[LSlitDrum$Course;") ∈ wt_ := wt_in (i := 427) (by decide +kernel) rfl
theorem m_428 : (Jvm.Cond.fieldLink "SlitDrum" (106 : Nat) "SlitDrum" "drawn" "J") ∈ wt_ := wt_in (i := 428) (by decide +kernel) rfl
theorem m_470 : (Jvm.Cond.methodLink "SlitDrumLaw" (19 : Nat) ({ cls := "SlitDrum", name := "feed", desc := "(IIIII)I" } : Jvm.MethodName)) ∈ wt_ := wt_in (i := 470) (by decide +kernel) rfl
theorem m_471 : (Jvm.Cond.instanceMethod ({ cls := "SlitDrum", name := "feed", desc := "(IIIII)I" } : Jvm.MethodName)) ∈ wt_ := wt_in (i := 471) (by decide +kernel) rfl
theorem m_472 : (Jvm.Cond.selects "SlitDrum" ({ cls := "SlitDrum", name := "feed", desc := "(IIIII)I" } : Jvm.MethodName) ({ cls := "SlitDrum", name := "feed", desc := "(IIIII)I" } : Jvm.MethodName)) ∈ wt_ := wt_in (i := 472) (by decide +kernel) rfl
theorem m_473 : (Jvm.Cond.code ({ cls := "SlitDrum", name := "feed", desc := "(IIIII)I" } : Jvm.MethodName) prog_1_method_2_code (7 : Nat) (Option.some Jvm.ClassFile.FieldType.int)) ∈ wt_ := wt_in (i := 473) (by decide +kernel) rfl
theorem m_474 : (Jvm.Cond.methodLink "SlitDrum" (111 : Nat) ({ cls := "SlitDrum", name := "bytesIn", desc := "(I)I" } : Jvm.MethodName)) ∈ wt_ := wt_in (i := 474) (by decide +kernel) rfl
theorem m_475 : (Jvm.Cond.static ({ cls := "SlitDrum", name := "bytesIn", desc := "(I)I" } : Jvm.MethodName)) ∈ wt_ := wt_in (i := 475) (by decide +kernel) rfl
theorem m_476 : (Jvm.Cond.code ({ cls := "SlitDrum", name := "bytesIn", desc := "(I)I" } : Jvm.MethodName) prog_1_method_3_code (3 : Nat) (Option.some Jvm.ClassFile.FieldType.int)) ∈ wt_ := wt_in (i := 476) (by decide +kernel) rfl
theorem m_477 : (Jvm.Cond.methodLink "SlitDrum" (115 : Nat) ({ cls := "SlitDrum", name := "record", desc := "(I)V" } : Jvm.MethodName)) ∈ wt_ := wt_in (i := 477) (by decide +kernel) rfl
theorem m_479 : (Jvm.Cond.instanceMethod ({ cls := "SlitDrum", name := "record", desc := "(I)V" } : Jvm.MethodName)) ∈ wt_ := wt_in (i := 479) (by decide +kernel) rfl
theorem m_480 : (Jvm.Cond.code ({ cls := "SlitDrum", name := "record", desc := "(I)V" } : Jvm.MethodName) prog_1_method_4_code (4 : Nat) (Option.none : Option Jvm.ClassFile.FieldType)) ∈ wt_ := wt_in (i := 480) (by decide +kernel) rfl
theorem m_481 : (Jvm.Cond.methodLink "SlitDrumLaw" (24 : Nat) ({ cls := "SlitDrum", name := "end", desc := "(I)Z" } : Jvm.MethodName)) ∈ wt_ := wt_in (i := 481) (by decide +kernel) rfl
theorem m_482 : (Jvm.Cond.instanceMethod ({ cls := "SlitDrum", name := "end", desc := "(I)Z" } : Jvm.MethodName)) ∈ wt_ := wt_in (i := 482) (by decide +kernel) rfl
theorem m_483 : (Jvm.Cond.selects "SlitDrum" ({ cls := "SlitDrum", name := "end", desc := "(I)Z" } : Jvm.MethodName) ({ cls := "SlitDrum", name := "end", desc := "(I)Z" } : Jvm.MethodName)) ∈ wt_ := wt_in (i := 483) (by decide +kernel) rfl
theorem m_484 : (Jvm.Cond.code ({ cls := "SlitDrum", name := "end", desc := "(I)Z" } : Jvm.MethodName) prog_1_method_5_code (2 : Nat) (Option.some Jvm.ClassFile.FieldType.boolean)) ∈ wt_ := wt_in (i := 484) (by decide +kernel) rfl
theorem m_485 : (Jvm.Cond.methodLink "SlitDrumLaw" (29 : Nat) ({ cls := "SlitDrum", name := "fault", desc := "(I)I" } : Jvm.MethodName)) ∈ wt_ := wt_in (i := 485) (by decide +kernel) rfl
theorem m_486 : (Jvm.Cond.instanceMethod ({ cls := "SlitDrum", name := "fault", desc := "(I)I" } : Jvm.MethodName)) ∈ wt_ := wt_in (i := 486) (by decide +kernel) rfl
theorem m_487 : (Jvm.Cond.selects "SlitDrum" ({ cls := "SlitDrum", name := "fault", desc := "(I)I" } : Jvm.MethodName) ({ cls := "SlitDrum", name := "fault", desc := "(I)I" } : Jvm.MethodName)) ∈ wt_ := wt_in (i := 487) (by decide +kernel) rfl
theorem m_488 : (Jvm.Cond.code ({ cls := "SlitDrum", name := "fault", desc := "(I)I" } : Jvm.MethodName) prog_1_method_6_code (3 : Nat) (Option.some Jvm.ClassFile.FieldType.int)) ∈ wt_ := wt_in (i := 488) (by decide +kernel) rfl
theorem m_489 : (Jvm.Cond.methodLink "SlitDrum" (119 : Nat) ({ cls := "SlitDrum", name := "readerOf", desc := "(I)LSlitDrum$Reader;" } : Jvm.MethodName)) ∈ wt_ := wt_in (i := 489) (by decide +kernel) rfl
theorem m_491 : (Jvm.Cond.instanceMethod ({ cls := "SlitDrum", name := "readerOf", desc := "(I)LSlitDrum$Reader;" } : Jvm.MethodName)) ∈ wt_ := wt_in (i := 491) (by decide +kernel) rfl
theorem m_492 : (Jvm.Cond.code ({ cls := "SlitDrum", name := "readerOf", desc := "(I)LSlitDrum$Reader;" } : Jvm.MethodName) prog_1_method_8_code (3 : Nat) (Option.some (Jvm.ClassFile.FieldType.object "SlitDrum$Reader"))) ∈ wt_ := wt_in (i := 492) (by decide +kernel) rfl
theorem m_493 : (Jvm.Cond.methodLink "SlitDrum" (142 : Nat) ({ cls := "SlitDrum$Reader", name := "start", desc := "([II)V" } : Jvm.MethodName)) ∈ wt_ := wt_in (i := 493) (by decide +kernel) rfl
theorem m_494 : (Jvm.Cond.instanceMethod ({ cls := "SlitDrum$Reader", name := "start", desc := "([II)V" } : Jvm.MethodName)) ∈ wt_ := wt_in (i := 494) (by decide +kernel) rfl
theorem m_495 : (Jvm.Cond.sameMethod "SlitDrum$Reader" "SlitDrum$Reader" "start" "([II)V") ∈ wt_ := wt_in (i := 495) (by decide +kernel) rfl
theorem m_496 : (Jvm.Cond.selects "SlitDrum$LanternReader" ({ cls := "SlitDrum$Reader", name := "start", desc := "([II)V" } : Jvm.MethodName) ({ cls := "SlitDrum$Reader", name := "start", desc := "([II)V" } : Jvm.MethodName)) ∈ wt_ := wt_in (i := 496) (by decide +kernel) rfl
theorem m_497 : (Jvm.Cond.selects "SlitDrum$LawReader" ({ cls := "SlitDrum$Reader", name := "start", desc := "([II)V" } : Jvm.MethodName) ({ cls := "SlitDrum$Reader", name := "start", desc := "([II)V" } : Jvm.MethodName)) ∈ wt_ := wt_in (i := 497) (by decide +kernel) rfl
theorem m_498 : (Jvm.Cond.selects "SlitDrum$StripReader" ({ cls := "SlitDrum$Reader", name := "start", desc := "([II)V" } : Jvm.MethodName) ({ cls := "SlitDrum$Reader", name := "start", desc := "([II)V" } : Jvm.MethodName)) ∈ wt_ := wt_in (i := 498) (by decide +kernel) rfl
theorem m_499 : (Jvm.Cond.code ({ cls := "SlitDrum$Reader", name := "start", desc := "([II)V" } : Jvm.MethodName) prog_8_method_3_code (3 : Nat) (Option.none : Option Jvm.ClassFile.FieldType)) ∈ wt_ := wt_in (i := 499) (by decide +kernel) rfl
theorem m_500 : (Jvm.Cond.methodLink "SlitDrum$Reader" (22 : Nat) ({ cls := "java/lang/Math", name := "min", desc := "(II)I" } : Jvm.MethodName)) ∈ wt_ := wt_in (i := 500) (by decide +kernel) rfl
theorem m_501 : (Jvm.Cond.static ({ cls := "java/lang/Math", name := "min", desc := "(II)I" } : Jvm.MethodName)) ∈ wt_ := wt_in (i := 501) (by decide +kernel) rfl
theorem m_502 : (Jvm.Cond.code ({ cls := "java/lang/Math", name := "min", desc := "(II)I" } : Jvm.MethodName) prog_22_method_69_code (2 : Nat) (Option.some Jvm.ClassFile.FieldType.int)) ∈ wt_ := wt_in (i := 502) (by decide +kernel) rfl
theorem m_503 : (Jvm.Cond.methodLink "SlitDrum" (123 : Nat) ({ cls := "SlitDrum$Reader", name := "isWhole", desc := "()Z" } : Jvm.MethodName)) ∈ wt_ := wt_in (i := 503) (by decide +kernel) rfl
theorem m_505 : (Jvm.Cond.sameMethod "SlitDrum$Reader" "SlitDrum$Reader" "isWhole" "()Z") ∈ wt_ := wt_in (i := 505) (by decide +kernel) rfl
theorem m_506 : (Jvm.Cond.selects "SlitDrum$LanternReader" ({ cls := "SlitDrum$Reader", name := "isWhole", desc := "()Z" } : Jvm.MethodName) ({ cls := "SlitDrum$LanternReader", name := "isWhole", desc := "()Z" } : Jvm.MethodName)) ∈ wt_ := wt_in (i := 506) (by decide +kernel) rfl
theorem m_507 : (Jvm.Cond.instanceMethod ({ cls := "SlitDrum$LanternReader", name := "isWhole", desc := "()Z" } : Jvm.MethodName)) ∈ wt_ := wt_in (i := 507) (by decide +kernel) rfl
theorem m_508 : (Jvm.Cond.code ({ cls := "SlitDrum$LanternReader", name := "isWhole", desc := "()Z" } : Jvm.MethodName) prog_3_method_2_code (2 : Nat) (Option.some Jvm.ClassFile.FieldType.boolean)) ∈ wt_ := wt_in (i := 508) (by decide +kernel) rfl
theorem m_511 : (Jvm.Cond.methodLink "SlitDrum$LanternReader" (29 : Nat) ({ cls := "java/lang/System", name := "arraycopy", desc := "(Ljava/lang/Object;ILjava/lang/Object;II)V" } : Jvm.MethodName)) ∈ wt_ := wt_in (i := 511) (by decide +kernel) rfl
theorem m_512 : (Jvm.Cond.static ({ cls := "java/lang/System", name := "arraycopy", desc := "(Ljava/lang/Object;ILjava/lang/Object;II)V" } : Jvm.MethodName)) ∈ wt_ := wt_in (i := 512) (by decide +kernel) rfl
theorem m_513 : (Jvm.Cond.native ({ cls := "java/lang/System", name := "arraycopy", desc := "(Ljava/lang/Object;ILjava/lang/Object;II)V" } : Jvm.MethodName)) ∈ wt_ := wt_in (i := 513) (by decide +kernel) rfl
theorem m_514 : (Jvm.Cond.methodLink "SlitDrum$LanternReader" (35 : Nat) ({ cls := "SlitDrum$LanternReader", name := "isClause", desc := "()Z" } : Jvm.MethodName)) ∈ wt_ := wt_in (i := 514) (by decide +kernel) rfl
theorem m_516 : (Jvm.Cond.instanceMethod ({ cls := "SlitDrum$LanternReader", name := "isClause", desc := "()Z" } : Jvm.MethodName)) ∈ wt_ := wt_in (i := 516) (by decide +kernel) rfl
theorem m_517 : (Jvm.Cond.code ({ cls := "SlitDrum$LanternReader", name := "isClause", desc := "()Z" } : Jvm.MethodName) prog_3_method_3_code (2 : Nat) (Option.some Jvm.ClassFile.FieldType.boolean)) ∈ wt_ := wt_in (i := 517) (by decide +kernel) rfl
theorem m_518 : (Jvm.Cond.methodLink "SlitDrum$LanternReader" (39 : Nat) ({ cls := "SlitDrum$LanternReader", name := "takes", desc := "(I)Z" } : Jvm.MethodName)) ∈ wt_ := wt_in (i := 518) (by decide +kernel) rfl
theorem m_519 : (Jvm.Cond.sameMethod "SlitDrum$LanternReader" "SlitDrum$Reader" "takes" "(I)Z") ∈ wt_ := wt_in (i := 519) (by decide +kernel) rfl
theorem m_521 : (Jvm.Cond.selects "SlitDrum$LanternReader" ({ cls := "SlitDrum$LanternReader", name := "takes", desc := "(I)Z" } : Jvm.MethodName) ({ cls := "SlitDrum$Reader", name := "takes", desc := "(I)Z" } : Jvm.MethodName)) ∈ wt_ := wt_in (i := 521) (by decide +kernel) rfl
theorem m_522 : (Jvm.Cond.instanceMethod ({ cls := "SlitDrum$Reader", name := "takes", desc := "(I)Z" } : Jvm.MethodName)) ∈ wt_ := wt_in (i := 522) (by decide +kernel) rfl
theorem m_523 : (Jvm.Cond.code ({ cls := "SlitDrum$Reader", name := "takes", desc := "(I)Z" } : Jvm.MethodName) prog_8_method_5_code (3 : Nat) (Option.some Jvm.ClassFile.FieldType.boolean)) ∈ wt_ := wt_in (i := 523) (by decide +kernel) rfl
theorem m_524 : (Jvm.Cond.methodLink "SlitDrum$Reader" (28 : Nat) ({ cls := "SlitDrum$Reader", name := "nextSign", desc := "()I" } : Jvm.MethodName)) ∈ wt_ := wt_in (i := 524) (by decide +kernel) rfl
theorem m_525 : (Jvm.Cond.instanceMethod ({ cls := "SlitDrum$Reader", name := "nextSign", desc := "()I" } : Jvm.MethodName)) ∈ wt_ := wt_in (i := 525) (by decide +kernel) rfl
theorem m_526 : (Jvm.Cond.sameMethod "SlitDrum$Reader" "SlitDrum$Reader" "nextSign" "()I") ∈ wt_ := wt_in (i := 526) (by decide +kernel) rfl
theorem m_527 : (Jvm.Cond.selects "SlitDrum$LanternReader" ({ cls := "SlitDrum$Reader", name := "nextSign", desc := "()I" } : Jvm.MethodName) ({ cls := "SlitDrum$Reader", name := "nextSign", desc := "()I" } : Jvm.MethodName)) ∈ wt_ := wt_in (i := 527) (by decide +kernel) rfl
theorem m_528 : (Jvm.Cond.selects "SlitDrum$LawReader" ({ cls := "SlitDrum$Reader", name := "nextSign", desc := "()I" } : Jvm.MethodName) ({ cls := "SlitDrum$Reader", name := "nextSign", desc := "()I" } : Jvm.MethodName)) ∈ wt_ := wt_in (i := 528) (by decide +kernel) rfl
theorem m_529 : (Jvm.Cond.selects "SlitDrum$StripReader" ({ cls := "SlitDrum$Reader", name := "nextSign", desc := "()I" } : Jvm.MethodName) ({ cls := "SlitDrum$Reader", name := "nextSign", desc := "()I" } : Jvm.MethodName)) ∈ wt_ := wt_in (i := 529) (by decide +kernel) rfl
theorem m_530 : (Jvm.Cond.code ({ cls := "SlitDrum$Reader", name := "nextSign", desc := "()I" } : Jvm.MethodName) prog_8_method_4_code (1 : Nat) (Option.some Jvm.ClassFile.FieldType.int)) ∈ wt_ := wt_in (i := 530) (by decide +kernel) rfl
theorem m_536 : (Jvm.Cond.methodLink "SlitDrum$LanternReader" (55 : Nat) ({ cls := "SlitDrum$LanternReader", name := "areItems", desc := "(Ljava/lang/String;[I[I[II)Z" } : Jvm.MethodName)) ∈ wt_ := wt_in (i := 536) (by decide +kernel) rfl
theorem m_538 : (Jvm.Cond.instanceMethod ({ cls := "SlitDrum$LanternReader", name := "areItems", desc := "(Ljava/lang/String;[I[I[II)Z" } : Jvm.MethodName)) ∈ wt_ := wt_in (i := 538) (by decide +kernel) rfl
theorem m_539 : (Jvm.Cond.code ({ cls := "SlitDrum$LanternReader", name := "areItems", desc := "(Ljava/lang/String;[I[I[II)Z" } : Jvm.MethodName) prog_3_method_4_code (10 : Nat) (Option.some Jvm.ClassFile.FieldType.boolean)) ∈ wt_ := wt_in (i := 539) (by decide +kernel) rfl
theorem m_540 : (Jvm.Cond.methodLink "SlitDrum$LanternReader" (70 : Nat) ({ cls := "java/lang/String", name := "length", desc := "()I" } : Jvm.MethodName)) ∈ wt_ := wt_in (i := 540) (by decide +kernel) rfl
theorem m_541 : (Jvm.Cond.instanceMethod ({ cls := "java/lang/String", name := "length", desc := "()I" } : Jvm.MethodName)) ∈ wt_ := wt_in (i := 541) (by decide +kernel) rfl
theorem m_542 : (Jvm.Cond.selects "java/lang/String" ({ cls := "java/lang/String", name := "length", desc := "()I" } : Jvm.MethodName) ({ cls := "java/lang/String", name := "length", desc := "()I" } : Jvm.MethodName)) ∈ wt_ := wt_in (i := 542) (by decide +kernel) rfl
theorem m_543 : (Jvm.Cond.code ({ cls := "java/lang/String", name := "length", desc := "()I" } : Jvm.MethodName) prog_24_method_54_code (1 : Nat) (Option.some Jvm.ClassFile.FieldType.int)) ∈ wt_ := wt_in (i := 543) (by decide +kernel) rfl
theorem m_544 : (Jvm.Cond.methodLink "java/lang/String" (335 : Nat) ({ cls := "java/lang/String", name := "coder", desc := "()B" } : Jvm.MethodName)) ∈ wt_ := wt_in (i := 544) (by decide +kernel) rfl
theorem m_545 : (Jvm.Cond.instanceMethod ({ cls := "java/lang/String", name := "coder", desc := "()B" } : Jvm.MethodName)) ∈ wt_ := wt_in (i := 545) (by decide +kernel) rfl
theorem m_546 : (Jvm.Cond.selects "java/lang/String" ({ cls := "java/lang/String", name := "coder", desc := "()B" } : Jvm.MethodName) ({ cls := "java/lang/String", name := "coder", desc := "()B" } : Jvm.MethodName)) ∈ wt_ := wt_in (i := 546) (by decide +kernel) rfl
theorem m_547 : (Jvm.Cond.code ({ cls := "java/lang/String", name := "coder", desc := "()B" } : Jvm.MethodName) prog_24_method_152_code (1 : Nat) (Option.some Jvm.ClassFile.FieldType.byte)) ∈ wt_ := wt_in (i := 547) (by decide +kernel) rfl
theorem m_550 : (Jvm.Cond.methodLink "SlitDrum$LanternReader" (43 : Nat) ({ cls := "SlitDrum$LanternReader", name := "nextSign", desc := "()I" } : Jvm.MethodName)) ∈ wt_ := wt_in (i := 550) (by decide +kernel) rfl
theorem m_551 : (Jvm.Cond.sameMethod "SlitDrum$LanternReader" "SlitDrum$Reader" "nextSign" "()I") ∈ wt_ := wt_in (i := 551) (by decide +kernel) rfl
theorem m_553 : (Jvm.Cond.selects "SlitDrum$LanternReader" ({ cls := "SlitDrum$LanternReader", name := "nextSign", desc := "()I" } : Jvm.MethodName) ({ cls := "SlitDrum$Reader", name := "nextSign", desc := "()I" } : Jvm.MethodName)) ∈ wt_ := wt_in (i := 553) (by decide +kernel) rfl
theorem m_554 : (Jvm.Cond.methodLink "SlitDrum$LanternReader" (75 : Nat) ({ cls := "SlitDrum$LanternReader", name := "letterOf", desc := "(Ljava/lang/String;I)I" } : Jvm.MethodName)) ∈ wt_ := wt_in (i := 554) (by decide +kernel) rfl
theorem m_555 : (Jvm.Cond.sameMethod "SlitDrum$LanternReader" "SlitDrum$Reader" "letterOf" "(Ljava/lang/String;I)I") ∈ wt_ := wt_in (i := 555) (by decide +kernel) rfl
theorem m_556 : (Jvm.Cond.static ({ cls := "SlitDrum$Reader", name := "letterOf", desc := "(Ljava/lang/String;I)I" } : Jvm.MethodName)) ∈ wt_ := wt_in (i := 556) (by decide +kernel) rfl
theorem m_557 : (Jvm.Cond.code ({ cls := "SlitDrum$Reader", name := "letterOf", desc := "(Ljava/lang/String;I)I" } : Jvm.MethodName) prog_8_method_7_code (2 : Nat) (Option.some Jvm.ClassFile.FieldType.int)) ∈ wt_ := wt_in (i := 557) (by decide +kernel) rfl
theorem m_558 : (Jvm.Cond.methodLink "SlitDrum$Reader" (32 : Nat) ({ cls := "java/lang/String", name := "indexOf", desc := "(I)I" } : Jvm.MethodName)) ∈ wt_ := wt_in (i := 558) (by decide +kernel) rfl
theorem m_559 : (Jvm.Cond.instanceMethod ({ cls := "java/lang/String", name := "indexOf", desc := "(I)I" } : Jvm.MethodName)) ∈ wt_ := wt_in (i := 559) (by decide +kernel) rfl
theorem m_560 : (Jvm.Cond.selects "java/lang/String" ({ cls := "java/lang/String", name := "indexOf", desc := "(I)I" } : Jvm.MethodName) ({ cls := "java/lang/String", name := "indexOf", desc := "(I)I" } : Jvm.MethodName)) ∈ wt_ := wt_in (i := 560) (by decide +kernel) rfl
theorem m_561 : (Jvm.Cond.code ({ cls := "java/lang/String", name := "indexOf", desc := "(I)I" } : Jvm.MethodName) prog_24_method_79_code (2 : Nat) (Option.some Jvm.ClassFile.FieldType.int)) ∈ wt_ := wt_in (i := 561) (by decide +kernel) rfl
theorem m_562 : (Jvm.Cond.methodLink "java/lang/String" (633 : Nat) ({ cls := "java/lang/String", name := "indexOf", desc := "(II)I" } : Jvm.MethodName)) ∈ wt_ := wt_in (i := 562) (by decide +kernel) rfl
theorem m_563 : (Jvm.Cond.instanceMethod ({ cls := "java/lang/String", name := "indexOf", desc := "(II)I" } : Jvm.MethodName)) ∈ wt_ := wt_in (i := 563) (by decide +kernel) rfl
theorem m_564 : (Jvm.Cond.selects "java/lang/String" ({ cls := "java/lang/String", name := "indexOf", desc := "(II)I" } : Jvm.MethodName) ({ cls := "java/lang/String", name := "indexOf", desc := "(II)I" } : Jvm.MethodName)) ∈ wt_ := wt_in (i := 564) (by decide +kernel) rfl
theorem m_565 : (Jvm.Cond.code ({ cls := "java/lang/String", name := "indexOf", desc := "(II)I" } : Jvm.MethodName) prog_24_method_80_code (3 : Nat) (Option.some Jvm.ClassFile.FieldType.int)) ∈ wt_ := wt_in (i := 565) (by decide +kernel) rfl
theorem m_566 : (Jvm.Cond.methodLink "java/lang/String" (492 : Nat) ({ cls := "java/lang/String", name := "isLatin1", desc := "()Z" } : Jvm.MethodName)) ∈ wt_ := wt_in (i := 566) (by decide +kernel) rfl
theorem m_567 : (Jvm.Cond.instanceMethod ({ cls := "java/lang/String", name := "isLatin1", desc := "()Z" } : Jvm.MethodName)) ∈ wt_ := wt_in (i := 567) (by decide +kernel) rfl
theorem m_568 : (Jvm.Cond.selects "java/lang/String" ({ cls := "java/lang/String", name := "isLatin1", desc := "()Z" } : Jvm.MethodName) ({ cls := "java/lang/String", name := "isLatin1", desc := "()Z" } : Jvm.MethodName)) ∈ wt_ := wt_in (i := 568) (by decide +kernel) rfl
theorem m_569 : (Jvm.Cond.code ({ cls := "java/lang/String", name := "isLatin1", desc := "()Z" } : Jvm.MethodName) prog_24_method_154_code (1 : Nat) (Option.some Jvm.ClassFile.FieldType.boolean)) ∈ wt_ := wt_in (i := 569) (by decide +kernel) rfl
theorem m_570 : (Jvm.Cond.methodLink "java/lang/String" (505 : Nat) ({ cls := "java/lang/String", name := "length", desc := "()I" } : Jvm.MethodName)) ∈ wt_ := wt_in (i := 570) (by decide +kernel) rfl
theorem m_571 : (Jvm.Cond.methodLink "java/lang/String" (637 : Nat) ({ cls := "java/lang/StringLatin1", name := "indexOf", desc := "([BIII)I" } : Jvm.MethodName)) ∈ wt_ := wt_in (i := 571) (by decide +kernel) rfl
theorem m_572 : (Jvm.Cond.static ({ cls := "java/lang/StringLatin1", name := "indexOf", desc := "([BIII)I" } : Jvm.MethodName)) ∈ wt_ := wt_in (i := 572) (by decide +kernel) rfl
theorem m_573 : (Jvm.Cond.code ({ cls := "java/lang/StringLatin1", name := "indexOf", desc := "([BIII)I" } : Jvm.MethodName) prog_25_method_22_code (4 : Nat) (Option.some Jvm.ClassFile.FieldType.int)) ∈ wt_ := wt_in (i := 573) (by decide +kernel) rfl
theorem m_574 : (Jvm.Cond.methodLink "java/lang/StringLatin1" (88 : Nat) ({ cls := "java/lang/StringLatin1", name := "canEncode", desc := "(I)Z" } : Jvm.MethodName)) ∈ wt_ := wt_in (i := 574) (by decide +kernel) rfl
theorem m_575 : (Jvm.Cond.static ({ cls := "java/lang/StringLatin1", name := "canEncode", desc := "(I)Z" } : Jvm.MethodName)) ∈ wt_ := wt_in (i := 575) (by decide +kernel) rfl
theorem m_576 : (Jvm.Cond.code ({ cls := "java/lang/StringLatin1", name := "canEncode", desc := "(I)Z" } : Jvm.MethodName) prog_25_method_4_code (1 : Nat) (Option.some Jvm.ClassFile.FieldType.boolean)) ∈ wt_ := wt_in (i := 576) (by decide +kernel) rfl
theorem m_577 : (Jvm.Cond.methodLink "java/lang/StringLatin1" (92 : Nat) ({ cls := "java/lang/Math", name := "max", desc := "(II)I" } : Jvm.MethodName)) ∈ wt_ := wt_in (i := 577) (by decide +kernel) rfl
theorem m_578 : (Jvm.Cond.static ({ cls := "java/lang/Math", name := "max", desc := "(II)I" } : Jvm.MethodName)) ∈ wt_ := wt_in (i := 578) (by decide +kernel) rfl
theorem m_579 : (Jvm.Cond.code ({ cls := "java/lang/Math", name := "max", desc := "(II)I" } : Jvm.MethodName) prog_22_method_65_code (2 : Nat) (Option.some Jvm.ClassFile.FieldType.int)) ∈ wt_ := wt_in (i := 579) (by decide +kernel) rfl
theorem m_580 : (Jvm.Cond.methodLink "java/lang/StringLatin1" (38 : Nat) ({ cls := "java/lang/Math", name := "min", desc := "(II)I" } : Jvm.MethodName)) ∈ wt_ := wt_in (i := 580) (by decide +kernel) rfl
theorem m_581 : (Jvm.Cond.methodLink "java/lang/StringLatin1" (95 : Nat) ({ cls := "java/lang/StringLatin1", name := "indexOfChar", desc := "([BIII)I" } : Jvm.MethodName)) ∈ wt_ := wt_in (i := 581) (by decide +kernel) rfl
theorem m_582 : (Jvm.Cond.static ({ cls := "java/lang/StringLatin1", name := "indexOfChar", desc := "([BIII)I" } : Jvm.MethodName)) ∈ wt_ := wt_in (i := 582) (by decide +kernel) rfl
theorem m_583 : (Jvm.Cond.code ({ cls := "java/lang/StringLatin1", name := "indexOfChar", desc := "([BIII)I" } : Jvm.MethodName) prog_25_method_23_code (6 : Nat) (Option.some Jvm.ClassFile.FieldType.int)) ∈ wt_ := wt_in (i := 583) (by decide +kernel) rfl
theorem m_584 : (Jvm.Cond.methodLink "java/lang/String" (640 : Nat) ({ cls := "java/lang/StringUTF16", name := "indexOf", desc := "([BIII)I" } : Jvm.MethodName)) ∈ wt_ := wt_in (i := 584) (by decide +kernel) rfl
theorem m_585 : (Jvm.Cond.static ({ cls := "java/lang/StringUTF16", name := "indexOf", desc := "([BIII)I" } : Jvm.MethodName)) ∈ wt_ := wt_in (i := 585) (by decide +kernel) rfl
theorem m_586 : (Jvm.Cond.code ({ cls := "java/lang/StringUTF16", name := "indexOf", desc := "([BIII)I" } : Jvm.MethodName) prog_26_method_40_code (4 : Nat) (Option.some Jvm.ClassFile.FieldType.int)) ∈ wt_ := wt_in (i := 586) (by decide +kernel) rfl
theorem m_587 : (Jvm.Cond.methodLink "java/lang/StringUTF16" (224 : Nat) ({ cls := "java/lang/Math", name := "max", desc := "(II)I" } : Jvm.MethodName)) ∈ wt_ := wt_in (i := 587) (by decide +kernel) rfl
theorem m_588 : (Jvm.Cond.methodLink "java/lang/StringUTF16" (183 : Nat) ({ cls := "java/lang/Math", name := "min", desc := "(II)I" } : Jvm.MethodName)) ∈ wt_ := wt_in (i := 588) (by decide +kernel) rfl
theorem m_589 : (Jvm.Cond.constant "java/lang/StringUTF16" (227 : Nat) (65536 : Int32)) ∈ wt_ := wt_in (i := 589) (by decide +kernel) rfl
theorem m_590 : (Jvm.Cond.methodLink "java/lang/StringUTF16" (228 : Nat) ({ cls := "java/lang/StringUTF16", name := "indexOfChar", desc := "([BIII)I" } : Jvm.MethodName)) ∈ wt_ := wt_in (i := 590) (by decide +kernel) rfl
theorem m_591 : (Jvm.Cond.static ({ cls := "java/lang/StringUTF16", name := "indexOfChar", desc := "([BIII)I" } : Jvm.MethodName)) ∈ wt_ := wt_in (i := 591) (by decide +kernel) rfl
theorem m_592 : (Jvm.Cond.code ({ cls := "java/lang/StringUTF16", name := "indexOfChar", desc := "([BIII)I" } : Jvm.MethodName) prog_26_method_47_code (4 : Nat) (Option.some Jvm.ClassFile.FieldType.int)) ∈ wt_ := wt_in (i := 592) (by decide +kernel) rfl
theorem m_593 : (Jvm.Cond.methodLink "java/lang/StringUTF16" (96 : Nat) ({ cls := "java/lang/StringUTF16", name := "checkBoundsBeginEnd", desc := "(II[B)V" } : Jvm.MethodName)) ∈ wt_ := wt_in (i := 593) (by decide +kernel) rfl
theorem m_594 : (Jvm.Cond.static ({ cls := "java/lang/StringUTF16", name := "checkBoundsBeginEnd", desc := "(II[B)V" } : Jvm.MethodName)) ∈ wt_ := wt_in (i := 594) (by decide +kernel) rfl
theorem m_595 : (Jvm.Cond.code ({ cls := "java/lang/StringUTF16", name := "checkBoundsBeginEnd", desc := "(II[B)V" } : Jvm.MethodName) prog_26_method_93_code (3 : Nat) (Option.none : Option Jvm.ClassFile.FieldType)) ∈ wt_ := wt_in (i := 595) (by decide +kernel) rfl
theorem m_596 : (Jvm.Cond.methodLink "java/lang/StringUTF16" (48 : Nat) ({ cls := "java/lang/StringUTF16", name := "length", desc := "([B)I" } : Jvm.MethodName)) ∈ wt_ := wt_in (i := 596) (by decide +kernel) rfl
theorem m_597 : (Jvm.Cond.static ({ cls := "java/lang/StringUTF16", name := "length", desc := "([B)I" } : Jvm.MethodName)) ∈ wt_ := wt_in (i := 597) (by decide +kernel) rfl
theorem m_598 : (Jvm.Cond.code ({ cls := "java/lang/StringUTF16", name := "length", desc := "([B)I" } : Jvm.MethodName) prog_26_method_6_code (1 : Nat) (Option.some Jvm.ClassFile.FieldType.int)) ∈ wt_ := wt_in (i := 598) (by decide +kernel) rfl
theorem m_599 : (Jvm.Cond.methodLink "java/lang/StringUTF16" (241 : Nat) ({ cls := "java/lang/String", name := "checkBoundsBeginEnd", desc := "(III)V" } : Jvm.MethodName)) ∈ wt_ := wt_in (i := 599) (by decide +kernel) rfl
theorem m_600 : (Jvm.Cond.static ({ cls := "java/lang/String", name := "checkBoundsBeginEnd", desc := "(III)V" } : Jvm.MethodName)) ∈ wt_ := wt_in (i := 600) (by decide +kernel) rfl
theorem m_601 : (Jvm.Cond.code ({ cls := "java/lang/String", name := "checkBoundsBeginEnd", desc := "(III)V" } : Jvm.MethodName) prog_24_method_158_code (3 : Nat) (Option.none : Option Jvm.ClassFile.FieldType)) ∈ wt_ := wt_in (i := 601) (by decide +kernel) rfl
theorem m_604 : (Jvm.Cond.methodLink "java/lang/String" (1062 : Nat) ({ cls := "jdk/internal/util/Preconditions", name := "checkFromToIndex", desc := "(IIILjava/util/function/BiFunction;)I" } : Jvm.MethodName)) ∈ wt_ := wt_in (i := 604) (by decide +kernel) rfl
theorem m_605 : (Jvm.Cond.static ({ cls := "jdk/internal/util/Preconditions", name := "checkFromToIndex", desc := "(IIILjava/util/function/BiFunction;)I" } : Jvm.MethodName)) ∈ wt_ := wt_in (i := 605) (by decide +kernel) rfl
theorem m_606 : (Jvm.Cond.code ({ cls := "jdk/internal/util/Preconditions", name := "checkFromToIndex", desc := "(IIILjava/util/function/BiFunction;)I" } : Jvm.MethodName) prog_33_method_12_code (4 : Nat) (Option.some Jvm.ClassFile.FieldType.int)) ∈ wt_ := wt_in (i := 606) (by decide +kernel) rfl
theorem m_607 : (Jvm.Cond.methodLink "java/lang/StringUTF16" (244 : Nat) ({ cls := "java/lang/StringUTF16", name := "indexOfCharUnsafe", desc := "([BIII)I" } : Jvm.MethodName)) ∈ wt_ := wt_in (i := 607) (by decide +kernel) rfl
theorem m_608 : (Jvm.Cond.static ({ cls := "java/lang/StringUTF16", name := "indexOfCharUnsafe", desc := "([BIII)I" } : Jvm.MethodName)) ∈ wt_ := wt_in (i := 608) (by decide +kernel) rfl
theorem m_609 : (Jvm.Cond.code ({ cls := "java/lang/StringUTF16", name := "indexOfCharUnsafe", desc := "([BIII)I" } : Jvm.MethodName) prog_26_method_48_code (5 : Nat) (Option.some Jvm.ClassFile.FieldType.int)) ∈ wt_ := wt_in (i := 609) (by decide +kernel) rfl
theorem m_610 : (Jvm.Cond.methodLink "java/lang/StringUTF16" (71 : Nat) ({ cls := "java/lang/StringUTF16", name := "getChar", desc := "([BI)C" } : Jvm.MethodName)) ∈ wt_ := wt_in (i := 610) (by decide +kernel) rfl
theorem m_611 : (Jvm.Cond.static ({ cls := "java/lang/StringUTF16", name := "getChar", desc := "([BI)C" } : Jvm.MethodName)) ∈ wt_ := wt_in (i := 611) (by decide +kernel) rfl
theorem m_612 : (Jvm.Cond.code ({ cls := "java/lang/StringUTF16", name := "getChar", desc := "([BI)C" } : Jvm.MethodName) prog_26_method_5_code (2 : Nat) (Option.some Jvm.ClassFile.FieldType.char)) ∈ wt_ := wt_in (i := 612) (by decide +kernel) rfl
theorem m_619 : (Jvm.Cond.methodLink "java/lang/StringUTF16" (232 : Nat) ({ cls := "java/lang/StringUTF16", name := "indexOfSupplementary", desc := "([BIII)I" } : Jvm.MethodName)) ∈ wt_ := wt_in (i := 619) (by decide +kernel) rfl
theorem m_620 : (Jvm.Cond.static ({ cls := "java/lang/StringUTF16", name := "indexOfSupplementary", desc := "([BIII)I" } : Jvm.MethodName)) ∈ wt_ := wt_in (i := 620) (by decide +kernel) rfl
theorem m_621 : (Jvm.Cond.code ({ cls := "java/lang/StringUTF16", name := "indexOfSupplementary", desc := "([BIII)I" } : Jvm.MethodName) prog_26_method_49_code (7 : Nat) (Option.some Jvm.ClassFile.FieldType.int)) ∈ wt_ := wt_in (i := 621) (by decide +kernel) rfl
theorem m_622 : (Jvm.Cond.methodLink "java/lang/StringUTF16" (164 : Nat) ({ cls := "java/lang/Character", name := "isValidCodePoint", desc := "(I)Z" } : Jvm.MethodName)) ∈ wt_ := wt_in (i := 622) (by decide +kernel) rfl
theorem m_623 : (Jvm.Cond.static ({ cls := "java/lang/Character", name := "isValidCodePoint", desc := "(I)Z" } : Jvm.MethodName)) ∈ wt_ := wt_in (i := 623) (by decide +kernel) rfl
theorem m_624 : (Jvm.Cond.code ({ cls := "java/lang/Character", name := "isValidCodePoint", desc := "(I)Z" } : Jvm.MethodName) prog_17_method_11_code (2 : Nat) (Option.some Jvm.ClassFile.FieldType.boolean)) ∈ wt_ := wt_in (i := 624) (by decide +kernel) rfl
theorem m_625 : (Jvm.Cond.methodLink "java/lang/StringUTF16" (157 : Nat) ({ cls := "java/lang/Character", name := "highSurrogate", desc := "(I)C" } : Jvm.MethodName)) ∈ wt_ := wt_in (i := 625) (by decide +kernel) rfl
theorem m_626 : (Jvm.Cond.static ({ cls := "java/lang/Character", name := "highSurrogate", desc := "(I)C" } : Jvm.MethodName)) ∈ wt_ := wt_in (i := 626) (by decide +kernel) rfl
theorem m_627 : (Jvm.Cond.code ({ cls := "java/lang/Character", name := "highSurrogate", desc := "(I)C" } : Jvm.MethodName) prog_17_method_28_code (1 : Nat) (Option.some Jvm.ClassFile.FieldType.char)) ∈ wt_ := wt_in (i := 627) (by decide +kernel) rfl
theorem m_628 : (Jvm.Cond.constant "java/lang/Character" (110 : Nat) (55232 : Int32)) ∈ wt_ := wt_in (i := 628) (by decide +kernel) rfl
theorem m_629 : (Jvm.Cond.methodLink "java/lang/StringUTF16" (161 : Nat) ({ cls := "java/lang/Character", name := "lowSurrogate", desc := "(I)C" } : Jvm.MethodName)) ∈ wt_ := wt_in (i := 629) (by decide +kernel) rfl
theorem m_630 : (Jvm.Cond.static ({ cls := "java/lang/Character", name := "lowSurrogate", desc := "(I)C" } : Jvm.MethodName)) ∈ wt_ := wt_in (i := 630) (by decide +kernel) rfl
theorem m_631 : (Jvm.Cond.code ({ cls := "java/lang/Character", name := "lowSurrogate", desc := "(I)C" } : Jvm.MethodName) prog_17_method_29_code (1 : Nat) (Option.some Jvm.ClassFile.FieldType.char)) ∈ wt_ := wt_in (i := 631) (by decide +kernel) rfl
theorem m_632 : (Jvm.Cond.constant "java/lang/Character" (76 : Nat) (56320 : Int32)) ∈ wt_ := wt_in (i := 632) (by decide +kernel) rfl
theorem m_633 : (Jvm.Cond.methodLink "SlitDrum$LanternReader" (82 : Nat) ({ cls := "SlitDrum$LanternReader", name := "number", desc := "(III)I" } : Jvm.MethodName)) ∈ wt_ := wt_in (i := 633) (by decide +kernel) rfl
theorem m_634 : (Jvm.Cond.sameMethod "SlitDrum$LanternReader" "SlitDrum$Reader" "number" "(III)I") ∈ wt_ := wt_in (i := 634) (by decide +kernel) rfl
theorem m_636 : (Jvm.Cond.selects "SlitDrum$LanternReader" ({ cls := "SlitDrum$LanternReader", name := "number", desc := "(III)I" } : Jvm.MethodName) ({ cls := "SlitDrum$Reader", name := "number", desc := "(III)I" } : Jvm.MethodName)) ∈ wt_ := wt_in (i := 636) (by decide +kernel) rfl
theorem m_637 : (Jvm.Cond.instanceMethod ({ cls := "SlitDrum$Reader", name := "number", desc := "(III)I" } : Jvm.MethodName)) ∈ wt_ := wt_in (i := 637) (by decide +kernel) rfl
theorem m_638 : (Jvm.Cond.code ({ cls := "SlitDrum$Reader", name := "number", desc := "(III)I" } : Jvm.MethodName) prog_8_method_6_code (8 : Nat) (Option.some Jvm.ClassFile.FieldType.int)) ∈ wt_ := wt_in (i := 638) (by decide +kernel) rfl
theorem m_646 : (Jvm.Cond.selects "SlitDrum$LawReader" ({ cls := "SlitDrum$Reader", name := "isWhole", desc := "()Z" } : Jvm.MethodName) ({ cls := "SlitDrum$LawReader", name := "isWhole", desc := "()Z" } : Jvm.MethodName)) ∈ wt_ := wt_in (i := 646) (by decide +kernel) rfl
theorem m_647 : (Jvm.Cond.instanceMethod ({ cls := "SlitDrum$LawReader", name := "isWhole", desc := "()Z" } : Jvm.MethodName)) ∈ wt_ := wt_in (i := 647) (by decide +kernel) rfl
theorem m_648 : (Jvm.Cond.code ({ cls := "SlitDrum$LawReader", name := "isWhole", desc := "()Z" } : Jvm.MethodName) prog_5_method_2_code (2 : Nat) (Option.some Jvm.ClassFile.FieldType.boolean)) ∈ wt_ := wt_in (i := 648) (by decide +kernel) rfl
theorem m_649 : (Jvm.Cond.methodLink "SlitDrum$LawReader" (19 : Nat) ({ cls := "SlitDrum$LawReader", name := "isClause", desc := "()Z" } : Jvm.MethodName)) ∈ wt_ := wt_in (i := 649) (by decide +kernel) rfl
theorem m_651 : (Jvm.Cond.instanceMethod ({ cls := "SlitDrum$LawReader", name := "isClause", desc := "()Z" } : Jvm.MethodName)) ∈ wt_ := wt_in (i := 651) (by decide +kernel) rfl
theorem m_652 : (Jvm.Cond.code ({ cls := "SlitDrum$LawReader", name := "isClause", desc := "()Z" } : Jvm.MethodName) prog_5_method_5_code (2 : Nat) (Option.some Jvm.ClassFile.FieldType.boolean)) ∈ wt_ := wt_in (i := 652) (by decide +kernel) rfl
theorem m_653 : (Jvm.Cond.methodLink "SlitDrum$LawReader" (23 : Nat) ({ cls := "SlitDrum$LawReader", name := "takes", desc := "(I)Z" } : Jvm.MethodName)) ∈ wt_ := wt_in (i := 653) (by decide +kernel) rfl
theorem m_654 : (Jvm.Cond.sameMethod "SlitDrum$LawReader" "SlitDrum$Reader" "takes" "(I)Z") ∈ wt_ := wt_in (i := 654) (by decide +kernel) rfl
theorem m_655 : (Jvm.Cond.selects "SlitDrum$LawReader" ({ cls := "SlitDrum$LawReader", name := "takes", desc := "(I)Z" } : Jvm.MethodName) ({ cls := "SlitDrum$Reader", name := "takes", desc := "(I)Z" } : Jvm.MethodName)) ∈ wt_ := wt_in (i := 655) (by decide +kernel) rfl
theorem m_656 : (Jvm.Cond.methodLink "SlitDrum$LawReader" (27 : Nat) ({ cls := "SlitDrum$LawReader", name := "nextSign", desc := "()I" } : Jvm.MethodName)) ∈ wt_ := wt_in (i := 656) (by decide +kernel) rfl
theorem m_657 : (Jvm.Cond.sameMethod "SlitDrum$LawReader" "SlitDrum$Reader" "nextSign" "()I") ∈ wt_ := wt_in (i := 657) (by decide +kernel) rfl
theorem m_658 : (Jvm.Cond.selects "SlitDrum$LawReader" ({ cls := "SlitDrum$LawReader", name := "nextSign", desc := "()I" } : Jvm.MethodName) ({ cls := "SlitDrum$Reader", name := "nextSign", desc := "()I" } : Jvm.MethodName)) ∈ wt_ := wt_in (i := 658) (by decide +kernel) rfl
theorem m_659 : (Jvm.Cond.methodLink "SlitDrum$LawReader" (37 : Nat) ({ cls := "SlitDrum$LawReader", name := "isCondition", desc := "(I)Z" } : Jvm.MethodName)) ∈ wt_ := wt_in (i := 659) (by decide +kernel) rfl
theorem m_661 : (Jvm.Cond.instanceMethod ({ cls := "SlitDrum$LawReader", name := "isCondition", desc := "(I)Z" } : Jvm.MethodName)) ∈ wt_ := wt_in (i := 661) (by decide +kernel) rfl
theorem m_662 : (Jvm.Cond.code ({ cls := "SlitDrum$LawReader", name := "isCondition", desc := "(I)Z" } : Jvm.MethodName) prog_5_method_7_code (2 : Nat) (Option.some Jvm.ClassFile.FieldType.boolean)) ∈ wt_ := wt_in (i := 662) (by decide +kernel) rfl
theorem m_663 : (Jvm.Cond.methodLink "SlitDrum$LawReader" (64 : Nat) ({ cls := "SlitDrum$LawReader", name := "isTruth", desc := "(I)Z" } : Jvm.MethodName)) ∈ wt_ := wt_in (i := 663) (by decide +kernel) rfl
theorem m_665 : (Jvm.Cond.instanceMethod ({ cls := "SlitDrum$LawReader", name := "isTruth", desc := "(I)Z" } : Jvm.MethodName)) ∈ wt_ := wt_in (i := 665) (by decide +kernel) rfl
theorem m_666 : (Jvm.Cond.code ({ cls := "SlitDrum$LawReader", name := "isTruth", desc := "(I)Z" } : Jvm.MethodName) prog_5_method_9_code (2 : Nat) (Option.some Jvm.ClassFile.FieldType.boolean)) ∈ wt_ := wt_in (i := 666) (by decide +kernel) rfl
theorem m_667 : (Jvm.Cond.methodLink "SlitDrum$LawReader" (71 : Nat) ({ cls := "SlitDrum$LawReader", name := "isUnit", desc := "(I)Z" } : Jvm.MethodName)) ∈ wt_ := wt_in (i := 667) (by decide +kernel) rfl
theorem m_669 : (Jvm.Cond.instanceMethod ({ cls := "SlitDrum$LawReader", name := "isUnit", desc := "(I)Z" } : Jvm.MethodName)) ∈ wt_ := wt_in (i := 669) (by decide +kernel) rfl
theorem m_670 : (Jvm.Cond.code ({ cls := "SlitDrum$LawReader", name := "isUnit", desc := "(I)Z" } : Jvm.MethodName) prog_5_method_11_code (3 : Nat) (Option.some Jvm.ClassFile.FieldType.boolean)) ∈ wt_ := wt_in (i := 670) (by decide +kernel) rfl
theorem m_671 : (Jvm.Cond.methodLink "SlitDrum$LawReader" (43 : Nat) ({ cls := "SlitDrum$LawReader", name := "isSum", desc := "(I)Z" } : Jvm.MethodName)) ∈ wt_ := wt_in (i := 671) (by decide +kernel) rfl
theorem m_673 : (Jvm.Cond.instanceMethod ({ cls := "SlitDrum$LawReader", name := "isSum", desc := "(I)Z" } : Jvm.MethodName)) ∈ wt_ := wt_in (i := 673) (by decide +kernel) rfl
theorem m_674 : (Jvm.Cond.code ({ cls := "SlitDrum$LawReader", name := "isSum", desc := "(I)Z" } : Jvm.MethodName) prog_5_method_14_code (4 : Nat) (Option.some Jvm.ClassFile.FieldType.boolean)) ∈ wt_ := wt_in (i := 674) (by decide +kernel) rfl
theorem m_675 : (Jvm.Cond.methodLink "SlitDrum$LawReader" (77 : Nat) ({ cls := "SlitDrum$LawReader", name := "isTerm", desc := "(I)Z" } : Jvm.MethodName)) ∈ wt_ := wt_in (i := 675) (by decide +kernel) rfl
theorem m_677 : (Jvm.Cond.instanceMethod ({ cls := "SlitDrum$LawReader", name := "isTerm", desc := "(I)Z" } : Jvm.MethodName)) ∈ wt_ := wt_in (i := 677) (by decide +kernel) rfl
theorem m_678 : (Jvm.Cond.code ({ cls := "SlitDrum$LawReader", name := "isTerm", desc := "(I)Z" } : Jvm.MethodName) prog_5_method_15_code (4 : Nat) (Option.some Jvm.ClassFile.FieldType.boolean)) ∈ wt_ := wt_in (i := 678) (by decide +kernel) rfl
theorem m_679 : (Jvm.Cond.methodLink "SlitDrum$LawReader" (80 : Nat) ({ cls := "SlitDrum$LawReader", name := "isAtom", desc := "(I)Z" } : Jvm.MethodName)) ∈ wt_ := wt_in (i := 679) (by decide +kernel) rfl
theorem m_681 : (Jvm.Cond.instanceMethod ({ cls := "SlitDrum$LawReader", name := "isAtom", desc := "(I)Z" } : Jvm.MethodName)) ∈ wt_ := wt_in (i := 681) (by decide +kernel) rfl
theorem m_682 : (Jvm.Cond.code ({ cls := "SlitDrum$LawReader", name := "isAtom", desc := "(I)Z" } : Jvm.MethodName) prog_5_method_16_code (5 : Nat) (Option.some Jvm.ClassFile.FieldType.boolean)) ∈ wt_ := wt_in (i := 682) (by decide +kernel) rfl
theorem m_684 : (Jvm.Cond.methodLink "SlitDrum$LawReader" (85 : Nat) ({ cls := "SlitDrum$LawReader", name := "letterOf", desc := "(Ljava/lang/String;I)I" } : Jvm.MethodName)) ∈ wt_ := wt_in (i := 684) (by decide +kernel) rfl
theorem m_685 : (Jvm.Cond.sameMethod "SlitDrum$LawReader" "SlitDrum$Reader" "letterOf" "(Ljava/lang/String;I)I") ∈ wt_ := wt_in (i := 685) (by decide +kernel) rfl
theorem m_686 : (Jvm.Cond.methodLink "SlitDrum$LawReader" (89 : Nat) ({ cls := "SlitDrum$Law", name := "letterCode", desc := "(I)I" } : Jvm.MethodName)) ∈ wt_ := wt_in (i := 686) (by decide +kernel) rfl
theorem m_687 : (Jvm.Cond.static ({ cls := "SlitDrum$Law", name := "letterCode", desc := "(I)I" } : Jvm.MethodName)) ∈ wt_ := wt_in (i := 687) (by decide +kernel) rfl
theorem m_688 : (Jvm.Cond.code ({ cls := "SlitDrum$Law", name := "letterCode", desc := "(I)I" } : Jvm.MethodName) prog_4_method_2_code (1 : Nat) (Option.some Jvm.ClassFile.FieldType.int)) ∈ wt_ := wt_in (i := 688) (by decide +kernel) rfl
theorem m_689 : (Jvm.Cond.methodLink "SlitDrum$LawReader" (60 : Nat) ({ cls := "SlitDrum$LawReader", name := "write", desc := "(I)V" } : Jvm.MethodName)) ∈ wt_ := wt_in (i := 689) (by decide +kernel) rfl
theorem m_691 : (Jvm.Cond.instanceMethod ({ cls := "SlitDrum$LawReader", name := "write", desc := "(I)V" } : Jvm.MethodName)) ∈ wt_ := wt_in (i := 691) (by decide +kernel) rfl
theorem m_692 : (Jvm.Cond.code ({ cls := "SlitDrum$LawReader", name := "write", desc := "(I)V" } : Jvm.MethodName) prog_5_method_4_code (2 : Nat) (Option.none : Option Jvm.ClassFile.FieldType)) ∈ wt_ := wt_in (i := 692) (by decide +kernel) rfl
theorem m_693 : (Jvm.Cond.methodLink "SlitDrum$LawReader" (92 : Nat) ({ cls := "SlitDrum$LawReader", name := "number", desc := "(III)I" } : Jvm.MethodName)) ∈ wt_ := wt_in (i := 693) (by decide +kernel) rfl
theorem m_694 : (Jvm.Cond.sameMethod "SlitDrum$LawReader" "SlitDrum$Reader" "number" "(III)I") ∈ wt_ := wt_in (i := 694) (by decide +kernel) rfl
theorem m_695 : (Jvm.Cond.selects "SlitDrum$LawReader" ({ cls := "SlitDrum$LawReader", name := "number", desc := "(III)I" } : Jvm.MethodName) ({ cls := "SlitDrum$Reader", name := "number", desc := "(III)I" } : Jvm.MethodName)) ∈ wt_ := wt_in (i := 695) (by decide +kernel) rfl
theorem m_696 : (Jvm.Cond.methodLink "SlitDrum$LawReader" (67 : Nat) ({ cls := "SlitDrum$Law", name := "signCode", desc := "(I)I" } : Jvm.MethodName)) ∈ wt_ := wt_in (i := 696) (by decide +kernel) rfl
theorem m_697 : (Jvm.Cond.static ({ cls := "SlitDrum$Law", name := "signCode", desc := "(I)I" } : Jvm.MethodName)) ∈ wt_ := wt_in (i := 697) (by decide +kernel) rfl
theorem m_698 : (Jvm.Cond.code ({ cls := "SlitDrum$Law", name := "signCode", desc := "(I)I" } : Jvm.MethodName) prog_4_method_3_code (1 : Nat) (Option.some Jvm.ClassFile.FieldType.int)) ∈ wt_ := wt_in (i := 698) (by decide +kernel) rfl
theorem m_699 : (Jvm.Cond.methodLink "SlitDrum$LawReader" (49 : Nat) ({ cls := "SlitDrum$LawReader", name := "isCompared", desc := "(I)Z" } : Jvm.MethodName)) ∈ wt_ := wt_in (i := 699) (by decide +kernel) rfl
theorem m_701 : (Jvm.Cond.instanceMethod ({ cls := "SlitDrum$LawReader", name := "isCompared", desc := "(I)Z" } : Jvm.MethodName)) ∈ wt_ := wt_in (i := 701) (by decide +kernel) rfl
theorem m_702 : (Jvm.Cond.code ({ cls := "SlitDrum$LawReader", name := "isCompared", desc := "(I)Z" } : Jvm.MethodName) prog_5_method_13_code (3 : Nat) (Option.some Jvm.ClassFile.FieldType.boolean)) ∈ wt_ := wt_in (i := 702) (by decide +kernel) rfl
theorem m_703 : (Jvm.Cond.methodLink "SlitDrum$LawReader" (46 : Nat) ({ cls := "SlitDrum$LawReader", name := "isComparison", desc := "(I)Z" } : Jvm.MethodName)) ∈ wt_ := wt_in (i := 703) (by decide +kernel) rfl
theorem m_704 : (Jvm.Cond.static ({ cls := "SlitDrum$LawReader", name := "isComparison", desc := "(I)Z" } : Jvm.MethodName)) ∈ wt_ := wt_in (i := 704) (by decide +kernel) rfl
theorem m_705 : (Jvm.Cond.code ({ cls := "SlitDrum$LawReader", name := "isComparison", desc := "(I)Z" } : Jvm.MethodName) prog_5_method_12_code (1 : Nat) (Option.some Jvm.ClassFile.FieldType.boolean)) ∈ wt_ := wt_in (i := 705) (by decide +kernel) rfl
theorem m_706 : (Jvm.Cond.methodLink "SlitDrum$LawReader" (52 : Nat) ({ cls := "SlitDrum$LawReader", name := "areMoreUnits", desc := "(I)Z" } : Jvm.MethodName)) ∈ wt_ := wt_in (i := 706) (by decide +kernel) rfl
theorem m_708 : (Jvm.Cond.instanceMethod ({ cls := "SlitDrum$LawReader", name := "areMoreUnits", desc := "(I)Z" } : Jvm.MethodName)) ∈ wt_ := wt_in (i := 708) (by decide +kernel) rfl
theorem m_709 : (Jvm.Cond.code ({ cls := "SlitDrum$LawReader", name := "areMoreUnits", desc := "(I)Z" } : Jvm.MethodName) prog_5_method_10_code (3 : Nat) (Option.some Jvm.ClassFile.FieldType.boolean)) ∈ wt_ := wt_in (i := 709) (by decide +kernel) rfl
theorem m_710 : (Jvm.Cond.methodLink "SlitDrum$LawReader" (55 : Nat) ({ cls := "SlitDrum$LawReader", name := "areMoreTruths", desc := "(I)Z" } : Jvm.MethodName)) ∈ wt_ := wt_in (i := 710) (by decide +kernel) rfl
theorem m_712 : (Jvm.Cond.instanceMethod ({ cls := "SlitDrum$LawReader", name := "areMoreTruths", desc := "(I)Z" } : Jvm.MethodName)) ∈ wt_ := wt_in (i := 712) (by decide +kernel) rfl
theorem m_713 : (Jvm.Cond.code ({ cls := "SlitDrum$LawReader", name := "areMoreTruths", desc := "(I)Z" } : Jvm.MethodName) prog_5_method_8_code (3 : Nat) (Option.some Jvm.ClassFile.FieldType.boolean)) ∈ wt_ := wt_in (i := 713) (by decide +kernel) rfl
theorem m_714 : (Jvm.Cond.methodLink "SlitDrum$LawReader" (40 : Nat) ({ cls := "SlitDrum$LawReader", name := "isAnswerIf", desc := "()Z" } : Jvm.MethodName)) ∈ wt_ := wt_in (i := 714) (by decide +kernel) rfl
theorem m_716 : (Jvm.Cond.instanceMethod ({ cls := "SlitDrum$LawReader", name := "isAnswerIf", desc := "()Z" } : Jvm.MethodName)) ∈ wt_ := wt_in (i := 716) (by decide +kernel) rfl
theorem m_717 : (Jvm.Cond.code ({ cls := "SlitDrum$LawReader", name := "isAnswerIf", desc := "()Z" } : Jvm.MethodName) prog_5_method_6_code (2 : Nat) (Option.some Jvm.ClassFile.FieldType.boolean)) ∈ wt_ := wt_in (i := 717) (by decide +kernel) rfl
theorem m_718 : (Jvm.Cond.selects "SlitDrum$StripReader" ({ cls := "SlitDrum$Reader", name := "isWhole", desc := "()Z" } : Jvm.MethodName) ({ cls := "SlitDrum$StripReader", name := "isWhole", desc := "()Z" } : Jvm.MethodName)) ∈ wt_ := wt_in (i := 718) (by decide +kernel) rfl
theorem m_719 : (Jvm.Cond.instanceMethod ({ cls := "SlitDrum$StripReader", name := "isWhole", desc := "()Z" } : Jvm.MethodName)) ∈ wt_ := wt_in (i := 719) (by decide +kernel) rfl
theorem m_720 : (Jvm.Cond.code ({ cls := "SlitDrum$StripReader", name := "isWhole", desc := "()Z" } : Jvm.MethodName) prog_11_method_2_code (5 : Nat) (Option.some Jvm.ClassFile.FieldType.boolean)) ∈ wt_ := wt_in (i := 720) (by decide +kernel) rfl
theorem m_721 : (Jvm.Cond.methodLink "SlitDrum$StripReader" (19 : Nat) ({ cls := "SlitDrum$StripReader", name := "nextSign", desc := "()I" } : Jvm.MethodName)) ∈ wt_ := wt_in (i := 721) (by decide +kernel) rfl
theorem m_722 : (Jvm.Cond.sameMethod "SlitDrum$StripReader" "SlitDrum$Reader" "nextSign" "()I") ∈ wt_ := wt_in (i := 722) (by decide +kernel) rfl
theorem m_723 : (Jvm.Cond.selects "SlitDrum$StripReader" ({ cls := "SlitDrum$StripReader", name := "nextSign", desc := "()I" } : Jvm.MethodName) ({ cls := "SlitDrum$Reader", name := "nextSign", desc := "()I" } : Jvm.MethodName)) ∈ wt_ := wt_in (i := 723) (by decide +kernel) rfl
theorem m_724 : (Jvm.Cond.methodLink "SlitDrum$StripReader" (26 : Nat) ({ cls := "SlitDrum$StripReader", name := "pictureOf", desc := "(I)I" } : Jvm.MethodName)) ∈ wt_ := wt_in (i := 724) (by decide +kernel) rfl
theorem m_725 : (Jvm.Cond.static ({ cls := "SlitDrum$StripReader", name := "pictureOf", desc := "(I)I" } : Jvm.MethodName)) ∈ wt_ := wt_in (i := 725) (by decide +kernel) rfl
theorem m_726 : (Jvm.Cond.code ({ cls := "SlitDrum$StripReader", name := "pictureOf", desc := "(I)I" } : Jvm.MethodName) prog_11_method_3_code (1 : Nat) (Option.some Jvm.ClassFile.FieldType.int)) ∈ wt_ := wt_in (i := 726) (by decide +kernel) rfl
theorem m_727 : (Jvm.Cond.methodLink "SlitDrum$StripReader" (30 : Nat) ({ cls := "SlitDrum$StripReader", name := "add", desc := "(II)V" } : Jvm.MethodName)) ∈ wt_ := wt_in (i := 727) (by decide +kernel) rfl
theorem m_729 : (Jvm.Cond.instanceMethod ({ cls := "SlitDrum$StripReader", name := "add", desc := "(II)V" } : Jvm.MethodName)) ∈ wt_ := wt_in (i := 729) (by decide +kernel) rfl
theorem m_730 : (Jvm.Cond.code ({ cls := "SlitDrum$StripReader", name := "add", desc := "(II)V" } : Jvm.MethodName) prog_11_method_4_code (4 : Nat) (Option.none : Option Jvm.ClassFile.FieldType)) ∈ wt_ := wt_in (i := 730) (by decide +kernel) rfl
theorem m_731 : (Jvm.Cond.arrayClass Jvm.ClassFile.FieldType.byte) ∈ wt_ := wt_in (i := 731) (by decide +kernel) rfl
theorem m_732 : (Jvm.Cond.methodLink "SlitDrumLaw" (34 : Nat) ({ cls := "SlitDrum", name := "text", desc := "(I)I" } : Jvm.MethodName)) ∈ wt_ := wt_in (i := 732) (by decide +kernel) rfl
theorem m_733 : (Jvm.Cond.instanceMethod ({ cls := "SlitDrum", name := "text", desc := "(I)I" } : Jvm.MethodName)) ∈ wt_ := wt_in (i := 733) (by decide +kernel) rfl
theorem m_734 : (Jvm.Cond.selects "SlitDrum" ({ cls := "SlitDrum", name := "text", desc := "(I)I" } : Jvm.MethodName) ({ cls := "SlitDrum", name := "text", desc := "(I)I" } : Jvm.MethodName)) ∈ wt_ := wt_in (i := 734) (by decide +kernel) rfl
theorem m_735 : (Jvm.Cond.code ({ cls := "SlitDrum", name := "text", desc := "(I)I" } : Jvm.MethodName) prog_1_method_7_code (4 : Nat) (Option.some Jvm.ClassFile.FieldType.int)) ∈ wt_ := wt_in (i := 735) (by decide +kernel) rfl
theorem m_736 : (Jvm.Cond.methodLink "SlitDrum" (132 : Nat) ({ cls := "SlitDrum", name := "tellLantern", desc := "()I" } : Jvm.MethodName)) ∈ wt_ := wt_in (i := 736) (by decide +kernel) rfl
theorem m_738 : (Jvm.Cond.instanceMethod ({ cls := "SlitDrum", name := "tellLantern", desc := "()I" } : Jvm.MethodName)) ∈ wt_ := wt_in (i := 738) (by decide +kernel) rfl
theorem m_739 : (Jvm.Cond.code ({ cls := "SlitDrum", name := "tellLantern", desc := "()I" } : Jvm.MethodName) prog_1_method_9_code (3 : Nat) (Option.some Jvm.ClassFile.FieldType.int)) ∈ wt_ := wt_in (i := 739) (by decide +kernel) rfl
theorem m_740 : (Jvm.Cond.methodLink "SlitDrum" (146 : Nat) ({ cls := "SlitDrum$LanternReader", name := "tell", desc := "(LSlitDrum$Scene;)V" } : Jvm.MethodName)) ∈ wt_ := wt_in (i := 740) (by decide +kernel) rfl
theorem m_741 : (Jvm.Cond.instanceMethod ({ cls := "SlitDrum$LanternReader", name := "tell", desc := "(LSlitDrum$Scene;)V" } : Jvm.MethodName)) ∈ wt_ := wt_in (i := 741) (by decide +kernel) rfl
theorem m_742 : (Jvm.Cond.selects "SlitDrum$LanternReader" ({ cls := "SlitDrum$LanternReader", name := "tell", desc := "(LSlitDrum$Scene;)V" } : Jvm.MethodName) ({ cls := "SlitDrum$LanternReader", name := "tell", desc := "(LSlitDrum$Scene;)V" } : Jvm.MethodName)) ∈ wt_ := wt_in (i := 742) (by decide +kernel) rfl
theorem m_743 : (Jvm.Cond.code ({ cls := "SlitDrum$LanternReader", name := "tell", desc := "(LSlitDrum$Scene;)V" } : Jvm.MethodName) prog_3_method_5_code (4 : Nat) (Option.none : Option Jvm.ClassFile.FieldType)) ∈ wt_ := wt_in (i := 743) (by decide +kernel) rfl
theorem m_744 : (Jvm.Cond.methodLink "SlitDrum" (162 : Nat) ({ cls := "SlitDrum", name := "stripOf", desc := "(LSlitDrum$Wheel;)LSlitDrum$Strip;" } : Jvm.MethodName)) ∈ wt_ := wt_in (i := 744) (by decide +kernel) rfl
theorem m_746 : (Jvm.Cond.instanceMethod ({ cls := "SlitDrum", name := "stripOf", desc := "(LSlitDrum$Wheel;)LSlitDrum$Strip;" } : Jvm.MethodName)) ∈ wt_ := wt_in (i := 746) (by decide +kernel) rfl
theorem m_747 : (Jvm.Cond.code ({ cls := "SlitDrum", name := "stripOf", desc := "(LSlitDrum$Wheel;)LSlitDrum$Strip;" } : Jvm.MethodName) prog_1_method_20_code (2 : Nat) (Option.some (Jvm.ClassFile.FieldType.object "SlitDrum$Strip"))) ∈ wt_ := wt_in (i := 747) (by decide +kernel) rfl
theorem m_748 : (Jvm.Cond.methodLink "SlitDrum" (221 : Nat) ({ cls := "SlitDrum", name := "isStrip", desc := "(I)Z" } : Jvm.MethodName)) ∈ wt_ := wt_in (i := 748) (by decide +kernel) rfl
theorem m_750 : (Jvm.Cond.instanceMethod ({ cls := "SlitDrum", name := "isStrip", desc := "(I)Z" } : Jvm.MethodName)) ∈ wt_ := wt_in (i := 750) (by decide +kernel) rfl
theorem m_751 : (Jvm.Cond.code ({ cls := "SlitDrum", name := "isStrip", desc := "(I)Z" } : Jvm.MethodName) prog_1_method_19_code (2 : Nat) (Option.some Jvm.ClassFile.FieldType.boolean)) ∈ wt_ := wt_in (i := 751) (by decide +kernel) rfl
theorem m_752 : (Jvm.Cond.methodLink "SlitDrum" (166 : Nat) ({ cls := "SlitDrum$Strip", name := "size", desc := "()I" } : Jvm.MethodName)) ∈ wt_ := wt_in (i := 752) (by decide +kernel) rfl
theorem m_753 : (Jvm.Cond.instanceMethod ({ cls := "SlitDrum$Strip", name := "size", desc := "()I" } : Jvm.MethodName)) ∈ wt_ := wt_in (i := 753) (by decide +kernel) rfl
theorem m_754 : (Jvm.Cond.selects "SlitDrum$Strip" ({ cls := "SlitDrum$Strip", name := "size", desc := "()I" } : Jvm.MethodName) ({ cls := "SlitDrum$Strip", name := "size", desc := "()I" } : Jvm.MethodName)) ∈ wt_ := wt_in (i := 754) (by decide +kernel) rfl
theorem m_755 : (Jvm.Cond.code ({ cls := "SlitDrum$Strip", name := "size", desc := "()I" } : Jvm.MethodName) prog_10_method_2_code (1 : Nat) (Option.some Jvm.ClassFile.FieldType.int)) ∈ wt_ := wt_in (i := 755) (by decide +kernel) rfl
theorem m_756 : (Jvm.Cond.methodLink "SlitDrum" (169 : Nat) ({ cls := "SlitDrum", name := "round", desc := "(II)I" } : Jvm.MethodName)) ∈ wt_ := wt_in (i := 756) (by decide +kernel) rfl
theorem m_757 : (Jvm.Cond.static ({ cls := "SlitDrum", name := "round", desc := "(II)I" } : Jvm.MethodName)) ∈ wt_ := wt_in (i := 757) (by decide +kernel) rfl
theorem m_758 : (Jvm.Cond.code ({ cls := "SlitDrum", name := "round", desc := "(II)I" } : Jvm.MethodName) prog_1_method_87_code (2 : Nat) (Option.some Jvm.ClassFile.FieldType.int)) ∈ wt_ := wt_in (i := 758) (by decide +kernel) rfl
theorem m_759 : (Jvm.Cond.methodLink "SlitDrum" (421 : Nat) ({ cls := "java/lang/Math", name := "floorMod", desc := "(II)I" } : Jvm.MethodName)) ∈ wt_ := wt_in (i := 759) (by decide +kernel) rfl
theorem m_760 : (Jvm.Cond.static ({ cls := "java/lang/Math", name := "floorMod", desc := "(II)I" } : Jvm.MethodName)) ∈ wt_ := wt_in (i := 760) (by decide +kernel) rfl
theorem m_761 : (Jvm.Cond.code ({ cls := "java/lang/Math", name := "floorMod", desc := "(II)I" } : Jvm.MethodName) prog_22_method_50_code (3 : Nat) (Option.some Jvm.ClassFile.FieldType.int)) ∈ wt_ := wt_in (i := 761) (by decide +kernel) rfl
theorem m_762 : (Jvm.Cond.methodLink "SlitDrum" (173 : Nat) ({ cls := "SlitDrum$Past", name := "clear", desc := "()V" } : Jvm.MethodName)) ∈ wt_ := wt_in (i := 762) (by decide +kernel) rfl
theorem m_763 : (Jvm.Cond.instanceMethod ({ cls := "SlitDrum$Past", name := "clear", desc := "()V" } : Jvm.MethodName)) ∈ wt_ := wt_in (i := 763) (by decide +kernel) rfl
theorem m_764 : (Jvm.Cond.selects "SlitDrum$Past" ({ cls := "SlitDrum$Past", name := "clear", desc := "()V" } : Jvm.MethodName) ({ cls := "SlitDrum$Past", name := "clear", desc := "()V" } : Jvm.MethodName)) ∈ wt_ := wt_in (i := 764) (by decide +kernel) rfl
theorem m_765 : (Jvm.Cond.code ({ cls := "SlitDrum$Past", name := "clear", desc := "()V" } : Jvm.MethodName) prog_7_method_2_code (1 : Nat) (Option.none : Option Jvm.ClassFile.FieldType)) ∈ wt_ := wt_in (i := 765) (by decide +kernel) rfl
theorem m_766 : (Jvm.Cond.methodLink "SlitDrum" (176 : Nat) ({ cls := "SlitDrum$Notes", name := "clear", desc := "()V" } : Jvm.MethodName)) ∈ wt_ := wt_in (i := 766) (by decide +kernel) rfl
theorem m_767 : (Jvm.Cond.instanceMethod ({ cls := "SlitDrum$Notes", name := "clear", desc := "()V" } : Jvm.MethodName)) ∈ wt_ := wt_in (i := 767) (by decide +kernel) rfl
theorem m_768 : (Jvm.Cond.selects "SlitDrum$Notes" ({ cls := "SlitDrum$Notes", name := "clear", desc := "()V" } : Jvm.MethodName) ({ cls := "SlitDrum$Notes", name := "clear", desc := "()V" } : Jvm.MethodName)) ∈ wt_ := wt_in (i := 768) (by decide +kernel) rfl
theorem m_769 : (Jvm.Cond.code ({ cls := "SlitDrum$Notes", name := "clear", desc := "()V" } : Jvm.MethodName) prog_6_method_2_code (1 : Nat) (Option.none : Option Jvm.ClassFile.FieldType)) ∈ wt_ := wt_in (i := 769) (by decide +kernel) rfl
theorem m_770 : (Jvm.Cond.methodLink "SlitDrum" (136 : Nat) ({ cls := "SlitDrum", name := "tellLaw", desc := "()I" } : Jvm.MethodName)) ∈ wt_ := wt_in (i := 770) (by decide +kernel) rfl
theorem m_772 : (Jvm.Cond.instanceMethod ({ cls := "SlitDrum", name := "tellLaw", desc := "()I" } : Jvm.MethodName)) ∈ wt_ := wt_in (i := 772) (by decide +kernel) rfl
theorem m_773 : (Jvm.Cond.code ({ cls := "SlitDrum", name := "tellLaw", desc := "()I" } : Jvm.MethodName) prog_1_method_10_code (1 : Nat) (Option.some Jvm.ClassFile.FieldType.int)) ∈ wt_ := wt_in (i := 773) (by decide +kernel) rfl
theorem m_774 : (Jvm.Cond.instantiable "SlitDrum$Law" (3 : Nat)) ∈ wt_ := wt_in (i := 774) (by decide +kernel) rfl
theorem m_775 : (Jvm.Cond.methodLink "SlitDrum" (177 : Nat) ({ cls := "SlitDrum$LawReader", name := "written", desc := "()[I" } : Jvm.MethodName)) ∈ wt_ := wt_in (i := 775) (by decide +kernel) rfl
theorem m_776 : (Jvm.Cond.instanceMethod ({ cls := "SlitDrum$LawReader", name := "written", desc := "()[I" } : Jvm.MethodName)) ∈ wt_ := wt_in (i := 776) (by decide +kernel) rfl
theorem m_777 : (Jvm.Cond.selects "SlitDrum$LawReader" ({ cls := "SlitDrum$LawReader", name := "written", desc := "()[I" } : Jvm.MethodName) ({ cls := "SlitDrum$LawReader", name := "written", desc := "()[I" } : Jvm.MethodName)) ∈ wt_ := wt_in (i := 777) (by decide +kernel) rfl
theorem m_778 : (Jvm.Cond.code ({ cls := "SlitDrum$LawReader", name := "written", desc := "()[I" } : Jvm.MethodName) prog_5_method_3_code (1 : Nat) (Option.some (Jvm.ClassFile.FieldType.array Jvm.ClassFile.FieldType.int))) ∈ wt_ := wt_in (i := 778) (by decide +kernel) rfl
theorem m_779 : (Jvm.Cond.methodLink "SlitDrum$LawReader" (31 : Nat) ({ cls := "java/util/Arrays", name := "copyOf", desc := "([II)[I" } : Jvm.MethodName)) ∈ wt_ := wt_in (i := 779) (by decide +kernel) rfl
theorem m_780 : (Jvm.Cond.static ({ cls := "java/util/Arrays", name := "copyOf", desc := "([II)[I" } : Jvm.MethodName)) ∈ wt_ := wt_in (i := 780) (by decide +kernel) rfl
theorem m_781 : (Jvm.Cond.code ({ cls := "java/util/Arrays", name := "copyOf", desc := "([II)[I" } : Jvm.MethodName) prog_31_method_123_code (3 : Nat) (Option.some (Jvm.ClassFile.FieldType.array Jvm.ClassFile.FieldType.int))) ∈ wt_ := wt_in (i := 781) (by decide +kernel) rfl
theorem m_782 : (Jvm.Cond.methodLink "java/util/Arrays" (316 : Nat) ({ cls := "[I", name := "clone", desc := "()Ljava/lang/Object;" } : Jvm.MethodName)) ∈ wt_ := wt_in (i := 782) (by decide +kernel) rfl
theorem m_783 : (Jvm.Cond.sameMethod "[I" "java/lang/Object" "clone" "()Ljava/lang/Object;") ∈ wt_ := wt_in (i := 783) (by decide +kernel) rfl
theorem m_786 : (Jvm.Cond.selects "[I" ({ cls := "[I", name := "clone", desc := "()Ljava/lang/Object;" } : Jvm.MethodName) ({ cls := "java/lang/Object", name := "clone", desc := "()Ljava/lang/Object;" } : Jvm.MethodName)) ∈ wt_ := wt_in (i := 786) (by decide +kernel) rfl
theorem m_788 : (Jvm.Cond.classLink "java/util/Arrays" (317 : Nat) "[I") ∈ wt_ := wt_in (i := 788) (by decide +kernel) rfl
theorem m_789 : (Jvm.Cond.methodLink "java/util/Arrays" (304 : Nat) ({ cls := "java/lang/Math", name := "min", desc := "(II)I" } : Jvm.MethodName)) ∈ wt_ := wt_in (i := 789) (by decide +kernel) rfl
theorem m_790 : (Jvm.Cond.methodLink "java/util/Arrays" (150 : Nat) ({ cls := "java/lang/System", name := "arraycopy", desc := "(Ljava/lang/Object;ILjava/lang/Object;II)V" } : Jvm.MethodName)) ∈ wt_ := wt_in (i := 790) (by decide +kernel) rfl
theorem m_791 : (Jvm.Cond.methodLink "SlitDrum" (181 : Nat) ({ cls := "SlitDrum$Law", name := "<init>", desc := "([I)V" } : Jvm.MethodName)) ∈ wt_ := wt_in (i := 791) (by decide +kernel) rfl
theorem m_792 : (Jvm.Cond.instanceMethod ({ cls := "SlitDrum$Law", name := "<init>", desc := "([I)V" } : Jvm.MethodName)) ∈ wt_ := wt_in (i := 792) (by decide +kernel) rfl
theorem m_793 : (Jvm.Cond.code ({ cls := "SlitDrum$Law", name := "<init>", desc := "([I)V" } : Jvm.MethodName) prog_4_method_1_code (2 : Nat) (Option.none : Option Jvm.ClassFile.FieldType)) ∈ wt_ := wt_in (i := 793) (by decide +kernel) rfl
theorem m_794 : (Jvm.Cond.methodLink "SlitDrum$Law" (1 : Nat) ({ cls := "java/lang/Object", name := "<init>", desc := "()V" } : Jvm.MethodName)) ∈ wt_ := wt_in (i := 794) (by decide +kernel) rfl
theorem m_795 : (Jvm.Cond.fieldLink "SlitDrum$Law" (17 : Nat) "SlitDrum$Law" "codes" "[I") ∈ wt_ := wt_in (i := 795) (by decide +kernel) rfl
theorem m_796 : (Jvm.Cond.fieldLink "SlitDrum$Law" (7 : Nat) "SlitDrum$Law" "stack" "[I") ∈ wt_ := wt_in (i := 796) (by decide +kernel) rfl
theorem m_797 : (Jvm.Cond.fieldLink "SlitDrum$Law" (13 : Nat) "SlitDrum$Law" "height" "I") ∈ wt_ := wt_in (i := 797) (by decide +kernel) rfl
theorem m_805 : (Jvm.Cond.methodLink "SlitDrum" (139 : Nat) ({ cls := "SlitDrum", name := "tellStrip", desc := "()I" } : Jvm.MethodName)) ∈ wt_ := wt_in (i := 805) (by decide +kernel) rfl
theorem m_807 : (Jvm.Cond.instanceMethod ({ cls := "SlitDrum", name := "tellStrip", desc := "()I" } : Jvm.MethodName)) ∈ wt_ := wt_in (i := 807) (by decide +kernel) rfl
theorem m_808 : (Jvm.Cond.code ({ cls := "SlitDrum", name := "tellStrip", desc := "()I" } : Jvm.MethodName) prog_1_method_11_code (1 : Nat) (Option.some Jvm.ClassFile.FieldType.int)) ∈ wt_ := wt_in (i := 808) (by decide +kernel) rfl
theorem m_809 : (Jvm.Cond.methodLink "SlitDrum" (182 : Nat) ({ cls := "SlitDrum$StripReader", name := "written", desc := "()[I" } : Jvm.MethodName)) ∈ wt_ := wt_in (i := 809) (by decide +kernel) rfl
theorem m_810 : (Jvm.Cond.instanceMethod ({ cls := "SlitDrum$StripReader", name := "written", desc := "()[I" } : Jvm.MethodName)) ∈ wt_ := wt_in (i := 810) (by decide +kernel) rfl
theorem m_811 : (Jvm.Cond.selects "SlitDrum$StripReader" ({ cls := "SlitDrum$StripReader", name := "written", desc := "()[I" } : Jvm.MethodName) ({ cls := "SlitDrum$StripReader", name := "written", desc := "()[I" } : Jvm.MethodName)) ∈ wt_ := wt_in (i := 811) (by decide +kernel) rfl
theorem m_812 : (Jvm.Cond.code ({ cls := "SlitDrum$StripReader", name := "written", desc := "()[I" } : Jvm.MethodName) prog_11_method_5_code (1 : Nat) (Option.some (Jvm.ClassFile.FieldType.array Jvm.ClassFile.FieldType.int))) ∈ wt_ := wt_in (i := 812) (by decide +kernel) rfl
theorem m_813 : (Jvm.Cond.methodLink "SlitDrum$StripReader" (34 : Nat) ({ cls := "java/util/Arrays", name := "copyOf", desc := "([II)[I" } : Jvm.MethodName)) ∈ wt_ := wt_in (i := 813) (by decide +kernel) rfl
theorem m_814 : (Jvm.Cond.methodLink "SlitDrumLaw" (38 : Nat) ({ cls := "SlitDrum", name := "rule", desc := "(I)I" } : Jvm.MethodName)) ∈ wt_ := wt_in (i := 814) (by decide +kernel) rfl
theorem m_815 : (Jvm.Cond.instanceMethod ({ cls := "SlitDrum", name := "rule", desc := "(I)I" } : Jvm.MethodName)) ∈ wt_ := wt_in (i := 815) (by decide +kernel) rfl
theorem m_816 : (Jvm.Cond.selects "SlitDrum" ({ cls := "SlitDrum", name := "rule", desc := "(I)I" } : Jvm.MethodName) ({ cls := "SlitDrum", name := "rule", desc := "(I)I" } : Jvm.MethodName)) ∈ wt_ := wt_in (i := 816) (by decide +kernel) rfl
theorem m_817 : (Jvm.Cond.code ({ cls := "SlitDrum", name := "rule", desc := "(I)I" } : Jvm.MethodName) prog_1_method_12_code (2 : Nat) (Option.some Jvm.ClassFile.FieldType.int)) ∈ wt_ := wt_in (i := 817) (by decide +kernel) rfl
theorem m_818 : (Jvm.Cond.methodLink "SlitDrum" (183 : Nat) ({ cls := "SlitDrum", name := "isLit", desc := "()Z" } : Jvm.MethodName)) ∈ wt_ := wt_in (i := 818) (by decide +kernel) rfl
theorem m_820 : (Jvm.Cond.instanceMethod ({ cls := "SlitDrum", name := "isLit", desc := "()Z" } : Jvm.MethodName)) ∈ wt_ := wt_in (i := 820) (by decide +kernel) rfl
theorem m_821 : (Jvm.Cond.code ({ cls := "SlitDrum", name := "isLit", desc := "()Z" } : Jvm.MethodName) prog_1_method_17_code (1 : Nat) (Option.some Jvm.ClassFile.FieldType.boolean)) ∈ wt_ := wt_in (i := 821) (by decide +kernel) rfl
theorem m_822 : (Jvm.Cond.methodLink "SlitDrumLaw" (52 : Nat) ({ cls := "SlitDrum", name := "picture", desc := "(II)I" } : Jvm.MethodName)) ∈ wt_ := wt_in (i := 822) (by decide +kernel) rfl
theorem m_823 : (Jvm.Cond.instanceMethod ({ cls := "SlitDrum", name := "picture", desc := "(II)I" } : Jvm.MethodName)) ∈ wt_ := wt_in (i := 823) (by decide +kernel) rfl
theorem m_824 : (Jvm.Cond.selects "SlitDrum" ({ cls := "SlitDrum", name := "picture", desc := "(II)I" } : Jvm.MethodName) ({ cls := "SlitDrum", name := "picture", desc := "(II)I" } : Jvm.MethodName)) ∈ wt_ := wt_in (i := 824) (by decide +kernel) rfl
theorem m_825 : (Jvm.Cond.code ({ cls := "SlitDrum", name := "picture", desc := "(II)I" } : Jvm.MethodName) prog_1_method_14_code (4 : Nat) (Option.some Jvm.ClassFile.FieldType.int)) ∈ wt_ := wt_in (i := 825) (by decide +kernel) rfl
theorem m_826 : (Jvm.Cond.methodLink "SlitDrum" (224 : Nat) ({ cls := "SlitDrum$Strip", name := "shownAt", desc := "(I)I" } : Jvm.MethodName)) ∈ wt_ := wt_in (i := 826) (by decide +kernel) rfl
theorem m_827 : (Jvm.Cond.instanceMethod ({ cls := "SlitDrum$Strip", name := "shownAt", desc := "(I)I" } : Jvm.MethodName)) ∈ wt_ := wt_in (i := 827) (by decide +kernel) rfl
theorem m_828 : (Jvm.Cond.selects "SlitDrum$Strip" ({ cls := "SlitDrum$Strip", name := "shownAt", desc := "(I)I" } : Jvm.MethodName) ({ cls := "SlitDrum$Strip", name := "shownAt", desc := "(I)I" } : Jvm.MethodName)) ∈ wt_ := wt_in (i := 828) (by decide +kernel) rfl
theorem m_829 : (Jvm.Cond.code ({ cls := "SlitDrum$Strip", name := "shownAt", desc := "(I)I" } : Jvm.MethodName) prog_10_method_3_code (2 : Nat) (Option.some Jvm.ClassFile.FieldType.int)) ∈ wt_ := wt_in (i := 829) (by decide +kernel) rfl
theorem m_831 : (Jvm.Cond.methodLink "SlitDrumLaw" (56 : Nat) ({ cls := "SlitDrum", name := "law", desc := "(I)Z" } : Jvm.MethodName)) ∈ wt_ := wt_in (i := 831) (by decide +kernel) rfl
theorem m_832 : (Jvm.Cond.instanceMethod ({ cls := "SlitDrum", name := "law", desc := "(I)Z" } : Jvm.MethodName)) ∈ wt_ := wt_in (i := 832) (by decide +kernel) rfl
theorem m_833 : (Jvm.Cond.selects "SlitDrum" ({ cls := "SlitDrum", name := "law", desc := "(I)Z" } : Jvm.MethodName) ({ cls := "SlitDrum", name := "law", desc := "(I)Z" } : Jvm.MethodName)) ∈ wt_ := wt_in (i := 833) (by decide +kernel) rfl
theorem m_834 : (Jvm.Cond.code ({ cls := "SlitDrum", name := "law", desc := "(I)Z" } : Jvm.MethodName) prog_1_method_15_code (2 : Nat) (Option.some Jvm.ClassFile.FieldType.boolean)) ∈ wt_ := wt_in (i := 834) (by decide +kernel) rfl
theorem m_835 : (Jvm.Cond.methodLink "SlitDrumLaw" (60 : Nat) ({ cls := "SlitDrum", name := "touch", desc := "(I)Z" } : Jvm.MethodName)) ∈ wt_ := wt_in (i := 835) (by decide +kernel) rfl
theorem m_836 : (Jvm.Cond.instanceMethod ({ cls := "SlitDrum", name := "touch", desc := "(I)Z" } : Jvm.MethodName)) ∈ wt_ := wt_in (i := 836) (by decide +kernel) rfl
theorem m_837 : (Jvm.Cond.selects "SlitDrum" ({ cls := "SlitDrum", name := "touch", desc := "(I)Z" } : Jvm.MethodName) ({ cls := "SlitDrum", name := "touch", desc := "(I)Z" } : Jvm.MethodName)) ∈ wt_ := wt_in (i := 837) (by decide +kernel) rfl
theorem m_838 : (Jvm.Cond.code ({ cls := "SlitDrum", name := "touch", desc := "(I)Z" } : Jvm.MethodName) prog_1_method_16_code (2 : Nat) (Option.some Jvm.ClassFile.FieldType.boolean)) ∈ wt_ := wt_in (i := 838) (by decide +kernel) rfl
theorem m_839 : (Jvm.Cond.methodLink "SlitDrumLaw" (64 : Nat) ({ cls := "SlitDrum", name := "ticks", desc := "(I)I" } : Jvm.MethodName)) ∈ wt_ := wt_in (i := 839) (by decide +kernel) rfl
theorem m_840 : (Jvm.Cond.instanceMethod ({ cls := "SlitDrum", name := "ticks", desc := "(I)I" } : Jvm.MethodName)) ∈ wt_ := wt_in (i := 840) (by decide +kernel) rfl
theorem m_841 : (Jvm.Cond.selects "SlitDrum" ({ cls := "SlitDrum", name := "ticks", desc := "(I)I" } : Jvm.MethodName) ({ cls := "SlitDrum", name := "ticks", desc := "(I)I" } : Jvm.MethodName)) ∈ wt_ := wt_in (i := 841) (by decide +kernel) rfl
theorem m_842 : (Jvm.Cond.code ({ cls := "SlitDrum", name := "ticks", desc := "(I)I" } : Jvm.MethodName) prog_1_method_23_code (3 : Nat) (Option.some Jvm.ClassFile.FieldType.int)) ∈ wt_ := wt_in (i := 842) (by decide +kernel) rfl
theorem m_843 : (Jvm.Cond.methodLink "SlitDrum" (227 : Nat) ({ cls := "SlitDrum", name := "refused", desc := "(I)I" } : Jvm.MethodName)) ∈ wt_ := wt_in (i := 843) (by decide +kernel) rfl
theorem m_845 : (Jvm.Cond.instanceMethod ({ cls := "SlitDrum", name := "refused", desc := "(I)I" } : Jvm.MethodName)) ∈ wt_ := wt_in (i := 845) (by decide +kernel) rfl
theorem m_846 : (Jvm.Cond.code ({ cls := "SlitDrum", name := "refused", desc := "(I)I" } : Jvm.MethodName) prog_1_method_35_code (2 : Nat) (Option.some Jvm.ClassFile.FieldType.int)) ∈ wt_ := wt_in (i := 846) (by decide +kernel) rfl
theorem m_847 : (Jvm.Cond.methodLink "SlitDrum" (233 : Nat) ({ cls := "SlitDrum$Past", name := "keep", desc := "(LSlitDrum$Scene;)V" } : Jvm.MethodName)) ∈ wt_ := wt_in (i := 847) (by decide +kernel) rfl
theorem m_848 : (Jvm.Cond.instanceMethod ({ cls := "SlitDrum$Past", name := "keep", desc := "(LSlitDrum$Scene;)V" } : Jvm.MethodName)) ∈ wt_ := wt_in (i := 848) (by decide +kernel) rfl
theorem m_849 : (Jvm.Cond.selects "SlitDrum$Past" ({ cls := "SlitDrum$Past", name := "keep", desc := "(LSlitDrum$Scene;)V" } : Jvm.MethodName) ({ cls := "SlitDrum$Past", name := "keep", desc := "(LSlitDrum$Scene;)V" } : Jvm.MethodName)) ∈ wt_ := wt_in (i := 849) (by decide +kernel) rfl
theorem m_850 : (Jvm.Cond.code ({ cls := "SlitDrum$Past", name := "keep", desc := "(LSlitDrum$Scene;)V" } : Jvm.MethodName) prog_7_method_3_code (2 : Nat) (Option.none : Option Jvm.ClassFile.FieldType)) ∈ wt_ := wt_in (i := 850) (by decide +kernel) rfl
theorem m_852 : (Jvm.Cond.methodLink "SlitDrum$Past" (29 : Nat) ({ cls := "SlitDrum$Scene", name := "copyFrom", desc := "(LSlitDrum$Scene;)V" } : Jvm.MethodName)) ∈ wt_ := wt_in (i := 852) (by decide +kernel) rfl
theorem m_853 : (Jvm.Cond.instanceMethod ({ cls := "SlitDrum$Scene", name := "copyFrom", desc := "(LSlitDrum$Scene;)V" } : Jvm.MethodName)) ∈ wt_ := wt_in (i := 853) (by decide +kernel) rfl
theorem m_854 : (Jvm.Cond.selects "SlitDrum$Scene" ({ cls := "SlitDrum$Scene", name := "copyFrom", desc := "(LSlitDrum$Scene;)V" } : Jvm.MethodName) ({ cls := "SlitDrum$Scene", name := "copyFrom", desc := "(LSlitDrum$Scene;)V" } : Jvm.MethodName)) ∈ wt_ := wt_in (i := 854) (by decide +kernel) rfl
theorem m_855 : (Jvm.Cond.code ({ cls := "SlitDrum$Scene", name := "copyFrom", desc := "(LSlitDrum$Scene;)V" } : Jvm.MethodName) prog_9_method_2_code (3 : Nat) (Option.none : Option Jvm.ClassFile.FieldType)) ∈ wt_ := wt_in (i := 855) (by decide +kernel) rfl
theorem m_856 : (Jvm.Cond.methodLink "SlitDrum$Scene" (41 : Nat) ({ cls := "SlitDrum$Wheel", name := "copyFrom", desc := "(LSlitDrum$Wheel;)V" } : Jvm.MethodName)) ∈ wt_ := wt_in (i := 856) (by decide +kernel) rfl
theorem m_857 : (Jvm.Cond.instanceMethod ({ cls := "SlitDrum$Wheel", name := "copyFrom", desc := "(LSlitDrum$Wheel;)V" } : Jvm.MethodName)) ∈ wt_ := wt_in (i := 857) (by decide +kernel) rfl
theorem m_858 : (Jvm.Cond.selects "SlitDrum$Wheel" ({ cls := "SlitDrum$Wheel", name := "copyFrom", desc := "(LSlitDrum$Wheel;)V" } : Jvm.MethodName) ({ cls := "SlitDrum$Wheel", name := "copyFrom", desc := "(LSlitDrum$Wheel;)V" } : Jvm.MethodName)) ∈ wt_ := wt_in (i := 858) (by decide +kernel) rfl
theorem m_859 : (Jvm.Cond.code ({ cls := "SlitDrum$Wheel", name := "copyFrom", desc := "(LSlitDrum$Wheel;)V" } : Jvm.MethodName) prog_12_method_3_code (2 : Nat) (Option.none : Option Jvm.ClassFile.FieldType)) ∈ wt_ := wt_in (i := 859) (by decide +kernel) rfl
theorem m_860 : (Jvm.Cond.methodLink "SlitDrum$Scene" (45 : Nat) ({ cls := "java/lang/System", name := "arraycopy", desc := "(Ljava/lang/Object;ILjava/lang/Object;II)V" } : Jvm.MethodName)) ∈ wt_ := wt_in (i := 860) (by decide +kernel) rfl
theorem m_861 : (Jvm.Cond.methodLink "SlitDrum$Past" (33 : Nat) ({ cls := "java/lang/Math", name := "min", desc := "(II)I" } : Jvm.MethodName)) ∈ wt_ := wt_in (i := 861) (by decide +kernel) rfl
theorem m_862 : (Jvm.Cond.methodLink "SlitDrum" (236 : Nat) ({ cls := "SlitDrum", name := "tickOnce", desc := "()V" } : Jvm.MethodName)) ∈ wt_ := wt_in (i := 862) (by decide +kernel) rfl
theorem m_864 : (Jvm.Cond.instanceMethod ({ cls := "SlitDrum", name := "tickOnce", desc := "()V" } : Jvm.MethodName)) ∈ wt_ := wt_in (i := 864) (by decide +kernel) rfl
theorem m_865 : (Jvm.Cond.code ({ cls := "SlitDrum", name := "tickOnce", desc := "()V" } : Jvm.MethodName) prog_1_method_37_code (2 : Nat) (Option.none : Option Jvm.ClassFile.FieldType)) ∈ wt_ := wt_in (i := 865) (by decide +kernel) rfl
theorem m_866 : (Jvm.Cond.methodLink "SlitDrum" (256 : Nat) ({ cls := "SlitDrum", name := "nextPlace", desc := "(I)I" } : Jvm.MethodName)) ∈ wt_ := wt_in (i := 866) (by decide +kernel) rfl
theorem m_868 : (Jvm.Cond.instanceMethod ({ cls := "SlitDrum", name := "nextPlace", desc := "(I)I" } : Jvm.MethodName)) ∈ wt_ := wt_in (i := 868) (by decide +kernel) rfl
theorem m_869 : (Jvm.Cond.code ({ cls := "SlitDrum", name := "nextPlace", desc := "(I)I" } : Jvm.MethodName) prog_1_method_49_code (2 : Nat) (Option.some Jvm.ClassFile.FieldType.int)) ∈ wt_ := wt_in (i := 869) (by decide +kernel) rfl
theorem m_870 : (Jvm.Cond.methodLink "SlitDrum" (300 : Nat) ({ cls := "SlitDrum", name := "courseOf", desc := "(I)LSlitDrum$Course;" } : Jvm.MethodName)) ∈ wt_ := wt_in (i := 870) (by decide +kernel) rfl
theorem m_872 : (Jvm.Cond.instanceMethod ({ cls := "SlitDrum", name := "courseOf", desc := "(I)LSlitDrum$Course;" } : Jvm.MethodName)) ∈ wt_ := wt_in (i := 872) (by decide +kernel) rfl
theorem m_873 : (Jvm.Cond.code ({ cls := "SlitDrum", name := "courseOf", desc := "(I)LSlitDrum$Course;" } : Jvm.MethodName) prog_1_method_50_code (3 : Nat) (Option.some (Jvm.ClassFile.FieldType.object "SlitDrum$Course"))) ∈ wt_ := wt_in (i := 873) (by decide +kernel) rfl
theorem m_874 : (Jvm.Cond.methodLink "SlitDrum" (306 : Nat) ({ cls := "SlitDrum", name := "lawNow", desc := "()LSlitDrum$Law;" } : Jvm.MethodName)) ∈ wt_ := wt_in (i := 874) (by decide +kernel) rfl
theorem m_876 : (Jvm.Cond.instanceMethod ({ cls := "SlitDrum", name := "lawNow", desc := "()LSlitDrum$Law;" } : Jvm.MethodName)) ∈ wt_ := wt_in (i := 876) (by decide +kernel) rfl
theorem m_877 : (Jvm.Cond.code ({ cls := "SlitDrum", name := "lawNow", desc := "()LSlitDrum$Law;" } : Jvm.MethodName) prog_1_method_22_code (1 : Nat) (Option.some (Jvm.ClassFile.FieldType.object "SlitDrum$Law"))) ∈ wt_ := wt_in (i := 877) (by decide +kernel) rfl
theorem m_878 : (Jvm.Cond.methodLink "SlitDrum" (310 : Nat) ({ cls := "SlitDrum$Course", name := "set", desc := "(LSlitDrum$Wheel;LSlitDrum$Strip;LSlitDrum$Law;II)V" } : Jvm.MethodName)) ∈ wt_ := wt_in (i := 878) (by decide +kernel) rfl
theorem m_879 : (Jvm.Cond.instanceMethod ({ cls := "SlitDrum$Course", name := "set", desc := "(LSlitDrum$Wheel;LSlitDrum$Strip;LSlitDrum$Law;II)V" } : Jvm.MethodName)) ∈ wt_ := wt_in (i := 879) (by decide +kernel) rfl
theorem m_880 : (Jvm.Cond.selects "SlitDrum$Course" ({ cls := "SlitDrum$Course", name := "set", desc := "(LSlitDrum$Wheel;LSlitDrum$Strip;LSlitDrum$Law;II)V" } : Jvm.MethodName) ({ cls := "SlitDrum$Course", name := "set", desc := "(LSlitDrum$Wheel;LSlitDrum$Strip;LSlitDrum$Law;II)V" } : Jvm.MethodName)) ∈ wt_ := wt_in (i := 880) (by decide +kernel) rfl
theorem m_881 : (Jvm.Cond.code ({ cls := "SlitDrum$Course", name := "set", desc := "(LSlitDrum$Wheel;LSlitDrum$Strip;LSlitDrum$Law;II)V" } : Jvm.MethodName) prog_2_method_2_code (6 : Nat) (Option.none : Option Jvm.ClassFile.FieldType)) ∈ wt_ := wt_in (i := 881) (by decide +kernel) rfl
theorem m_882 : (Jvm.Cond.methodLink "SlitDrum$Course" (50 : Nat) ({ cls := "SlitDrum$Wheel", name := "velocity", desc := "()I" } : Jvm.MethodName)) ∈ wt_ := wt_in (i := 882) (by decide +kernel) rfl
theorem m_883 : (Jvm.Cond.instanceMethod ({ cls := "SlitDrum$Wheel", name := "velocity", desc := "()I" } : Jvm.MethodName)) ∈ wt_ := wt_in (i := 883) (by decide +kernel) rfl
theorem m_884 : (Jvm.Cond.selects "SlitDrum$Wheel" ({ cls := "SlitDrum$Wheel", name := "velocity", desc := "()I" } : Jvm.MethodName) ({ cls := "SlitDrum$Wheel", name := "velocity", desc := "()I" } : Jvm.MethodName)) ∈ wt_ := wt_in (i := 884) (by decide +kernel) rfl
theorem m_885 : (Jvm.Cond.code ({ cls := "SlitDrum$Wheel", name := "velocity", desc := "()I" } : Jvm.MethodName) prog_12_method_2_code (1 : Nat) (Option.some Jvm.ClassFile.FieldType.int)) ∈ wt_ := wt_in (i := 885) (by decide +kernel) rfl
theorem m_886 : (Jvm.Cond.methodLink "SlitDrum$Course" (58 : Nat) ({ cls := "SlitDrum$Strip", name := "size", desc := "()I" } : Jvm.MethodName)) ∈ wt_ := wt_in (i := 886) (by decide +kernel) rfl
theorem m_887 : (Jvm.Cond.methodLink "SlitDrum" (303 : Nat) ({ cls := "SlitDrum$Course", name := "movedFrom", desc := "(II)I" } : Jvm.MethodName)) ∈ wt_ := wt_in (i := 887) (by decide +kernel) rfl
theorem m_888 : (Jvm.Cond.instanceMethod ({ cls := "SlitDrum$Course", name := "movedFrom", desc := "(II)I" } : Jvm.MethodName)) ∈ wt_ := wt_in (i := 888) (by decide +kernel) rfl
theorem m_889 : (Jvm.Cond.selects "SlitDrum$Course" ({ cls := "SlitDrum$Course", name := "movedFrom", desc := "(II)I" } : Jvm.MethodName) ({ cls := "SlitDrum$Course", name := "movedFrom", desc := "(II)I" } : Jvm.MethodName)) ∈ wt_ := wt_in (i := 889) (by decide +kernel) rfl
theorem m_890 : (Jvm.Cond.code ({ cls := "SlitDrum$Course", name := "movedFrom", desc := "(II)I" } : Jvm.MethodName) prog_2_method_3_code (4 : Nat) (Option.some Jvm.ClassFile.FieldType.int)) ∈ wt_ := wt_in (i := 890) (by decide +kernel) rfl
theorem m_891 : (Jvm.Cond.methodLink "SlitDrum$Course" (61 : Nat) ({ cls := "SlitDrum$Strip", name := "shownAt", desc := "(I)I" } : Jvm.MethodName)) ∈ wt_ := wt_in (i := 891) (by decide +kernel) rfl
theorem m_893 : (Jvm.Cond.methodLink "SlitDrum$Course" (69 : Nat) ({ cls := "SlitDrum$Law", name := "worth", desc := "([I)I" } : Jvm.MethodName)) ∈ wt_ := wt_in (i := 893) (by decide +kernel) rfl
theorem m_894 : (Jvm.Cond.instanceMethod ({ cls := "SlitDrum$Law", name := "worth", desc := "([I)I" } : Jvm.MethodName)) ∈ wt_ := wt_in (i := 894) (by decide +kernel) rfl
theorem m_895 : (Jvm.Cond.selects "SlitDrum$Law" ({ cls := "SlitDrum$Law", name := "worth", desc := "([I)I" } : Jvm.MethodName) ({ cls := "SlitDrum$Law", name := "worth", desc := "([I)I" } : Jvm.MethodName)) ∈ wt_ := wt_in (i := 895) (by decide +kernel) rfl
theorem m_896 : (Jvm.Cond.code ({ cls := "SlitDrum$Law", name := "worth", desc := "([I)I" } : Jvm.MethodName) prog_4_method_4_code (6 : Nat) (Option.some Jvm.ClassFile.FieldType.int)) ∈ wt_ := wt_in (i := 896) (by decide +kernel) rfl
theorem m_897 : (Jvm.Cond.methodLink "SlitDrum$Law" (20 : Nat) ({ cls := "SlitDrum$Law", name := "pull", desc := "()I" } : Jvm.MethodName)) ∈ wt_ := wt_in (i := 897) (by decide +kernel) rfl
theorem m_899 : (Jvm.Cond.instanceMethod ({ cls := "SlitDrum$Law", name := "pull", desc := "()I" } : Jvm.MethodName)) ∈ wt_ := wt_in (i := 899) (by decide +kernel) rfl
theorem m_900 : (Jvm.Cond.code ({ cls := "SlitDrum$Law", name := "pull", desc := "()I" } : Jvm.MethodName) prog_4_method_7_code (1 : Nat) (Option.some Jvm.ClassFile.FieldType.int)) ∈ wt_ := wt_in (i := 900) (by decide +kernel) rfl
theorem m_901 : (Jvm.Cond.methodLink "SlitDrum$Law" (24 : Nat) ({ cls := "java/lang/Math", name := "max", desc := "(II)I" } : Jvm.MethodName)) ∈ wt_ := wt_in (i := 901) (by decide +kernel) rfl
theorem m_902 : (Jvm.Cond.methodLink "SlitDrum$Law" (30 : Nat) ({ cls := "SlitDrum$Law", name := "pile", desc := "(I)V" } : Jvm.MethodName)) ∈ wt_ := wt_in (i := 902) (by decide +kernel) rfl
theorem m_904 : (Jvm.Cond.instanceMethod ({ cls := "SlitDrum$Law", name := "pile", desc := "(I)V" } : Jvm.MethodName)) ∈ wt_ := wt_in (i := 904) (by decide +kernel) rfl
theorem m_905 : (Jvm.Cond.code ({ cls := "SlitDrum$Law", name := "pile", desc := "(I)V" } : Jvm.MethodName) prog_4_method_6_code (2 : Nat) (Option.none : Option Jvm.ClassFile.FieldType)) ∈ wt_ := wt_in (i := 905) (by decide +kernel) rfl
theorem m_906 : (Jvm.Cond.methodLink "SlitDrum$Law" (34 : Nat) ({ cls := "SlitDrum$Law", name := "joined", desc := "(III)J" } : Jvm.MethodName)) ∈ wt_ := wt_in (i := 906) (by decide +kernel) rfl
theorem m_907 : (Jvm.Cond.static ({ cls := "SlitDrum$Law", name := "joined", desc := "(III)J" } : Jvm.MethodName)) ∈ wt_ := wt_in (i := 907) (by decide +kernel) rfl
theorem m_908 : (Jvm.Cond.code ({ cls := "SlitDrum$Law", name := "joined", desc := "(III)J" } : Jvm.MethodName) prog_4_method_5_code (3 : Nat) (Option.some Jvm.ClassFile.FieldType.long)) ∈ wt_ := wt_in (i := 908) (by decide +kernel) rfl
theorem m_909 : (Jvm.Cond.constant "SlitDrum$Law" (38 : Nat) (-1000000 : Int32)) ∈ wt_ := wt_in (i := 909) (by decide +kernel) rfl
theorem m_910 : (Jvm.Cond.constant "SlitDrum$Law" (39 : Nat) (1000000 : Int32)) ∈ wt_ := wt_in (i := 910) (by decide +kernel) rfl
theorem m_912 : (Jvm.Cond.static ({ cls := "SlitDrum", name := "within", desc := "(JII)I" } : Jvm.MethodName)) ∈ wt_ := wt_in (i := 912) (by decide +kernel) rfl
theorem m_913 : (Jvm.Cond.code ({ cls := "SlitDrum", name := "within", desc := "(JII)I" } : Jvm.MethodName) prog_1_method_88_code (4 : Nat) (Option.some Jvm.ClassFile.FieldType.int)) ∈ wt_ := wt_in (i := 913) (by decide +kernel) rfl
theorem m_914 : (Jvm.Cond.methodLink "SlitDrum" (424 : Nat) ({ cls := "java/lang/Math", name := "min", desc := "(JJ)J" } : Jvm.MethodName)) ∈ wt_ := wt_in (i := 914) (by decide +kernel) rfl
theorem m_915 : (Jvm.Cond.static ({ cls := "java/lang/Math", name := "min", desc := "(JJ)J" } : Jvm.MethodName)) ∈ wt_ := wt_in (i := 915) (by decide +kernel) rfl
theorem m_916 : (Jvm.Cond.code ({ cls := "java/lang/Math", name := "min", desc := "(JJ)J" } : Jvm.MethodName) prog_22_method_70_code (4 : Nat) (Option.some Jvm.ClassFile.FieldType.long)) ∈ wt_ := wt_in (i := 916) (by decide +kernel) rfl
theorem m_917 : (Jvm.Cond.methodLink "SlitDrum" (427 : Nat) ({ cls := "java/lang/Math", name := "max", desc := "(JJ)J" } : Jvm.MethodName)) ∈ wt_ := wt_in (i := 917) (by decide +kernel) rfl
theorem m_918 : (Jvm.Cond.static ({ cls := "java/lang/Math", name := "max", desc := "(JJ)J" } : Jvm.MethodName)) ∈ wt_ := wt_in (i := 918) (by decide +kernel) rfl
theorem m_919 : (Jvm.Cond.code ({ cls := "java/lang/Math", name := "max", desc := "(JJ)J" } : Jvm.MethodName) prog_22_method_66_code (4 : Nat) (Option.some Jvm.ClassFile.FieldType.long)) ∈ wt_ := wt_in (i := 919) (by decide +kernel) rfl
theorem m_921 : (Jvm.Cond.methodLink "SlitDrum" (259 : Nat) ({ cls := "SlitDrum", name := "lookOnce", desc := "()V" } : Jvm.MethodName)) ∈ wt_ := wt_in (i := 921) (by decide +kernel) rfl
theorem m_923 : (Jvm.Cond.instanceMethod ({ cls := "SlitDrum", name := "lookOnce", desc := "()V" } : Jvm.MethodName)) ∈ wt_ := wt_in (i := 923) (by decide +kernel) rfl
theorem m_924 : (Jvm.Cond.code ({ cls := "SlitDrum", name := "lookOnce", desc := "()V" } : Jvm.MethodName) prog_1_method_38_code (4 : Nat) (Option.none : Option Jvm.ClassFile.FieldType)) ∈ wt_ := wt_in (i := 924) (by decide +kernel) rfl
theorem m_925 : (Jvm.Cond.methodLink "SlitDrum" (215 : Nat) ({ cls := "SlitDrum", name := "shown", desc := "(LSlitDrum$Wheel;)I" } : Jvm.MethodName)) ∈ wt_ := wt_in (i := 925) (by decide +kernel) rfl
theorem m_927 : (Jvm.Cond.instanceMethod ({ cls := "SlitDrum", name := "shown", desc := "(LSlitDrum$Wheel;)I" } : Jvm.MethodName)) ∈ wt_ := wt_in (i := 927) (by decide +kernel) rfl
theorem m_928 : (Jvm.Cond.code ({ cls := "SlitDrum", name := "shown", desc := "(LSlitDrum$Wheel;)I" } : Jvm.MethodName) prog_1_method_21_code (2 : Nat) (Option.some Jvm.ClassFile.FieldType.int)) ∈ wt_ := wt_in (i := 928) (by decide +kernel) rfl
theorem m_929 : (Jvm.Cond.methodLink "SlitDrum" (262 : Nat) ({ cls := "SlitDrum$Scene", name := "addRow", desc := "(I)V" } : Jvm.MethodName)) ∈ wt_ := wt_in (i := 929) (by decide +kernel) rfl
theorem m_930 : (Jvm.Cond.instanceMethod ({ cls := "SlitDrum$Scene", name := "addRow", desc := "(I)V" } : Jvm.MethodName)) ∈ wt_ := wt_in (i := 930) (by decide +kernel) rfl
theorem m_931 : (Jvm.Cond.selects "SlitDrum$Scene" ({ cls := "SlitDrum$Scene", name := "addRow", desc := "(I)V" } : Jvm.MethodName) ({ cls := "SlitDrum$Scene", name := "addRow", desc := "(I)V" } : Jvm.MethodName)) ∈ wt_ := wt_in (i := 931) (by decide +kernel) rfl
theorem m_932 : (Jvm.Cond.code ({ cls := "SlitDrum$Scene", name := "addRow", desc := "(I)V" } : Jvm.MethodName) prog_9_method_3_code (2 : Nat) (Option.none : Option Jvm.ClassFile.FieldType)) ∈ wt_ := wt_in (i := 932) (by decide +kernel) rfl
theorem m_934 : (Jvm.Cond.methodLink "SlitDrum" (265 : Nat) ({ cls := "SlitDrum", name := "allShowOne", desc := "()Z" } : Jvm.MethodName)) ∈ wt_ := wt_in (i := 934) (by decide +kernel) rfl
theorem m_936 : (Jvm.Cond.instanceMethod ({ cls := "SlitDrum", name := "allShowOne", desc := "()Z" } : Jvm.MethodName)) ∈ wt_ := wt_in (i := 936) (by decide +kernel) rfl
theorem m_937 : (Jvm.Cond.code ({ cls := "SlitDrum", name := "allShowOne", desc := "()Z" } : Jvm.MethodName) prog_1_method_39_code (4 : Nat) (Option.some Jvm.ClassFile.FieldType.boolean)) ∈ wt_ := wt_in (i := 937) (by decide +kernel) rfl
theorem m_938 : (Jvm.Cond.methodLink "SlitDrumLaw" (68 : Nat) ({ cls := "SlitDrum", name := "flash", desc := "(I)I" } : Jvm.MethodName)) ∈ wt_ := wt_in (i := 938) (by decide +kernel) rfl
theorem m_939 : (Jvm.Cond.instanceMethod ({ cls := "SlitDrum", name := "flash", desc := "(I)I" } : Jvm.MethodName)) ∈ wt_ := wt_in (i := 939) (by decide +kernel) rfl
theorem m_940 : (Jvm.Cond.selects "SlitDrum" ({ cls := "SlitDrum", name := "flash", desc := "(I)I" } : Jvm.MethodName) ({ cls := "SlitDrum", name := "flash", desc := "(I)I" } : Jvm.MethodName)) ∈ wt_ := wt_in (i := 940) (by decide +kernel) rfl
theorem m_941 : (Jvm.Cond.code ({ cls := "SlitDrum", name := "flash", desc := "(I)I" } : Jvm.MethodName) prog_1_method_24_code (3 : Nat) (Option.some Jvm.ClassFile.FieldType.int)) ∈ wt_ := wt_in (i := 941) (by decide +kernel) rfl
theorem m_942 : (Jvm.Cond.methodLink "SlitDrumLaw" (72 : Nat) ({ cls := "SlitDrum", name := "speed", desc := "(II)I" } : Jvm.MethodName)) ∈ wt_ := wt_in (i := 942) (by decide +kernel) rfl
theorem m_943 : (Jvm.Cond.instanceMethod ({ cls := "SlitDrum", name := "speed", desc := "(II)I" } : Jvm.MethodName)) ∈ wt_ := wt_in (i := 943) (by decide +kernel) rfl
theorem m_944 : (Jvm.Cond.selects "SlitDrum" ({ cls := "SlitDrum", name := "speed", desc := "(II)I" } : Jvm.MethodName) ({ cls := "SlitDrum", name := "speed", desc := "(II)I" } : Jvm.MethodName)) ∈ wt_ := wt_in (i := 944) (by decide +kernel) rfl
theorem m_945 : (Jvm.Cond.code ({ cls := "SlitDrum", name := "speed", desc := "(II)I" } : Jvm.MethodName) prog_1_method_25_code (5 : Nat) (Option.some Jvm.ClassFile.FieldType.int)) ∈ wt_ := wt_in (i := 945) (by decide +kernel) rfl
theorem m_946 : (Jvm.Cond.methodLink "SlitDrum" (195 : Nat) ({ cls := "SlitDrum", name := "isWheel", desc := "(I)Z" } : Jvm.MethodName)) ∈ wt_ := wt_in (i := 946) (by decide +kernel) rfl
theorem m_948 : (Jvm.Cond.instanceMethod ({ cls := "SlitDrum", name := "isWheel", desc := "(I)Z" } : Jvm.MethodName)) ∈ wt_ := wt_in (i := 948) (by decide +kernel) rfl
theorem m_949 : (Jvm.Cond.code ({ cls := "SlitDrum", name := "isWheel", desc := "(I)Z" } : Jvm.MethodName) prog_1_method_18_code (2 : Nat) (Option.some Jvm.ClassFile.FieldType.boolean)) ∈ wt_ := wt_in (i := 949) (by decide +kernel) rfl
theorem m_950 : (Jvm.Cond.methodLink "SlitDrumLaw" (76 : Nat) ({ cls := "SlitDrum", name := "about", desc := "(I)I" } : Jvm.MethodName)) ∈ wt_ := wt_in (i := 950) (by decide +kernel) rfl
theorem m_951 : (Jvm.Cond.instanceMethod ({ cls := "SlitDrum", name := "about", desc := "(I)I" } : Jvm.MethodName)) ∈ wt_ := wt_in (i := 951) (by decide +kernel) rfl
theorem m_952 : (Jvm.Cond.selects "SlitDrum" ({ cls := "SlitDrum", name := "about", desc := "(I)I" } : Jvm.MethodName) ({ cls := "SlitDrum", name := "about", desc := "(I)I" } : Jvm.MethodName)) ∈ wt_ := wt_in (i := 952) (by decide +kernel) rfl
theorem m_953 : (Jvm.Cond.code ({ cls := "SlitDrum", name := "about", desc := "(I)I" } : Jvm.MethodName) prog_1_method_26_code (3 : Nat) (Option.some Jvm.ClassFile.FieldType.int)) ∈ wt_ := wt_in (i := 953) (by decide +kernel) rfl
theorem m_954 : (Jvm.Cond.methodLink "SlitDrumLaw" (80 : Nat) ({ cls := "SlitDrum", name := "push", desc := "(II)I" } : Jvm.MethodName)) ∈ wt_ := wt_in (i := 954) (by decide +kernel) rfl
theorem m_955 : (Jvm.Cond.instanceMethod ({ cls := "SlitDrum", name := "push", desc := "(II)I" } : Jvm.MethodName)) ∈ wt_ := wt_in (i := 955) (by decide +kernel) rfl
theorem m_956 : (Jvm.Cond.selects "SlitDrum" ({ cls := "SlitDrum", name := "push", desc := "(II)I" } : Jvm.MethodName) ({ cls := "SlitDrum", name := "push", desc := "(II)I" } : Jvm.MethodName)) ∈ wt_ := wt_in (i := 956) (by decide +kernel) rfl
theorem m_957 : (Jvm.Cond.code ({ cls := "SlitDrum", name := "push", desc := "(II)I" } : Jvm.MethodName) prog_1_method_27_code (3 : Nat) (Option.some Jvm.ClassFile.FieldType.int)) ∈ wt_ := wt_in (i := 957) (by decide +kernel) rfl
theorem m_958 : (Jvm.Cond.methodLink "SlitDrum" (239 : Nat) ({ cls := "SlitDrum", name := "shove", desc := "(LSlitDrum$Wheel;I)V" } : Jvm.MethodName)) ∈ wt_ := wt_in (i := 958) (by decide +kernel) rfl
theorem m_960 : (Jvm.Cond.instanceMethod ({ cls := "SlitDrum", name := "shove", desc := "(LSlitDrum$Wheel;I)V" } : Jvm.MethodName)) ∈ wt_ := wt_in (i := 960) (by decide +kernel) rfl
theorem m_961 : (Jvm.Cond.code ({ cls := "SlitDrum", name := "shove", desc := "(LSlitDrum$Wheel;I)V" } : Jvm.MethodName) prog_1_method_36_code (3 : Nat) (Option.none : Option Jvm.ClassFile.FieldType)) ∈ wt_ := wt_in (i := 961) (by decide +kernel) rfl
theorem m_962 : (Jvm.Cond.methodLink "SlitDrumLaw" (84 : Nat) ({ cls := "SlitDrum", name := "puts", desc := "(II)I" } : Jvm.MethodName)) ∈ wt_ := wt_in (i := 962) (by decide +kernel) rfl
theorem m_963 : (Jvm.Cond.instanceMethod ({ cls := "SlitDrum", name := "puts", desc := "(II)I" } : Jvm.MethodName)) ∈ wt_ := wt_in (i := 963) (by decide +kernel) rfl
theorem m_964 : (Jvm.Cond.selects "SlitDrum" ({ cls := "SlitDrum", name := "puts", desc := "(II)I" } : Jvm.MethodName) ({ cls := "SlitDrum", name := "puts", desc := "(II)I" } : Jvm.MethodName)) ∈ wt_ := wt_in (i := 964) (by decide +kernel) rfl
theorem m_965 : (Jvm.Cond.code ({ cls := "SlitDrum", name := "puts", desc := "(II)I" } : Jvm.MethodName) prog_1_method_28_code (5 : Nat) (Option.some Jvm.ClassFile.FieldType.int)) ∈ wt_ := wt_in (i := 965) (by decide +kernel) rfl
theorem m_966 : (Jvm.Cond.methodLink "SlitDrumLaw" (88 : Nat) ({ cls := "SlitDrum", name := "oil", desc := "(I)I" } : Jvm.MethodName)) ∈ wt_ := wt_in (i := 966) (by decide +kernel) rfl
theorem m_967 : (Jvm.Cond.instanceMethod ({ cls := "SlitDrum", name := "oil", desc := "(I)I" } : Jvm.MethodName)) ∈ wt_ := wt_in (i := 967) (by decide +kernel) rfl
theorem m_968 : (Jvm.Cond.selects "SlitDrum" ({ cls := "SlitDrum", name := "oil", desc := "(I)I" } : Jvm.MethodName) ({ cls := "SlitDrum", name := "oil", desc := "(I)I" } : Jvm.MethodName)) ∈ wt_ := wt_in (i := 968) (by decide +kernel) rfl
theorem m_969 : (Jvm.Cond.code ({ cls := "SlitDrum", name := "oil", desc := "(I)I" } : Jvm.MethodName) prog_1_method_29_code (3 : Nat) (Option.some Jvm.ClassFile.FieldType.int)) ∈ wt_ := wt_in (i := 969) (by decide +kernel) rfl
theorem m_970 : (Jvm.Cond.methodLink "SlitDrumLaw" (92 : Nat) ({ cls := "SlitDrum", name := "give", desc := "(I)I" } : Jvm.MethodName)) ∈ wt_ := wt_in (i := 970) (by decide +kernel) rfl
theorem m_971 : (Jvm.Cond.instanceMethod ({ cls := "SlitDrum", name := "give", desc := "(I)I" } : Jvm.MethodName)) ∈ wt_ := wt_in (i := 971) (by decide +kernel) rfl
theorem m_972 : (Jvm.Cond.selects "SlitDrum" ({ cls := "SlitDrum", name := "give", desc := "(I)I" } : Jvm.MethodName) ({ cls := "SlitDrum", name := "give", desc := "(I)I" } : Jvm.MethodName)) ∈ wt_ := wt_in (i := 972) (by decide +kernel) rfl
theorem m_973 : (Jvm.Cond.code ({ cls := "SlitDrum", name := "give", desc := "(I)I" } : Jvm.MethodName) prog_1_method_30_code (2 : Nat) (Option.some Jvm.ClassFile.FieldType.int)) ∈ wt_ := wt_in (i := 973) (by decide +kernel) rfl
theorem m_974 : (Jvm.Cond.methodLink "SlitDrumLaw" (98 : Nat) ({ cls := "SlitDrum", name := "years", desc := "(IJ)I" } : Jvm.MethodName)) ∈ wt_ := wt_in (i := 974) (by decide +kernel) rfl
theorem m_975 : (Jvm.Cond.instanceMethod ({ cls := "SlitDrum", name := "years", desc := "(IJ)I" } : Jvm.MethodName)) ∈ wt_ := wt_in (i := 975) (by decide +kernel) rfl
theorem m_976 : (Jvm.Cond.selects "SlitDrum" ({ cls := "SlitDrum", name := "years", desc := "(IJ)I" } : Jvm.MethodName) ({ cls := "SlitDrum", name := "years", desc := "(IJ)I" } : Jvm.MethodName)) ∈ wt_ := wt_in (i := 976) (by decide +kernel) rfl
theorem m_977 : (Jvm.Cond.code ({ cls := "SlitDrum", name := "years", desc := "(IJ)I" } : Jvm.MethodName) prog_1_method_31_code (5 : Nat) (Option.some Jvm.ClassFile.FieldType.int)) ∈ wt_ := wt_in (i := 977) (by decide +kernel) rfl
theorem m_978 : (Jvm.Cond.methodLink "SlitDrum" (243 : Nat) ({ cls := "SlitDrum", name := "meddle", desc := "()V" } : Jvm.MethodName)) ∈ wt_ := wt_in (i := 978) (by decide +kernel) rfl
theorem m_980 : (Jvm.Cond.instanceMethod ({ cls := "SlitDrum", name := "meddle", desc := "()V" } : Jvm.MethodName)) ∈ wt_ := wt_in (i := 980) (by decide +kernel) rfl
theorem m_981 : (Jvm.Cond.code ({ cls := "SlitDrum", name := "meddle", desc := "()V" } : Jvm.MethodName) prog_1_method_40_code (3 : Nat) (Option.none : Option Jvm.ClassFile.FieldType)) ∈ wt_ := wt_in (i := 981) (by decide +kernel) rfl
theorem m_982 : (Jvm.Cond.methodLink "SlitDrum" (268 : Nat) ({ cls := "SlitDrum", name := "draw", desc := "(I)I" } : Jvm.MethodName)) ∈ wt_ := wt_in (i := 982) (by decide +kernel) rfl
theorem m_984 : (Jvm.Cond.instanceMethod ({ cls := "SlitDrum", name := "draw", desc := "(I)I" } : Jvm.MethodName)) ∈ wt_ := wt_in (i := 984) (by decide +kernel) rfl
theorem m_985 : (Jvm.Cond.code ({ cls := "SlitDrum", name := "draw", desc := "(I)I" } : Jvm.MethodName) prog_1_method_41_code (2 : Nat) (Option.some Jvm.ClassFile.FieldType.int)) ∈ wt_ := wt_in (i := 985) (by decide +kernel) rfl
theorem m_986 : (Jvm.Cond.constantLong "SlitDrum" (276 : Nat) (6364136223846793005 : Int64)) ∈ wt_ := wt_in (i := 986) (by decide +kernel) rfl
theorem m_987 : (Jvm.Cond.constantLong "SlitDrum" (278 : Nat) (1442695040888963407 : Int64)) ∈ wt_ := wt_in (i := 987) (by decide +kernel) rfl
theorem m_988 : (Jvm.Cond.methodLink "SlitDrum" (271 : Nat) ({ cls := "java/lang/Math", name := "min", desc := "(II)I" } : Jvm.MethodName)) ∈ wt_ := wt_in (i := 988) (by decide +kernel) rfl
theorem m_989 : (Jvm.Cond.methodLink "SlitDrumLaw" (103 : Nat) ({ cls := "SlitDrum", name := "status", desc := "(I)I" } : Jvm.MethodName)) ∈ wt_ := wt_in (i := 989) (by decide +kernel) rfl
theorem m_990 : (Jvm.Cond.instanceMethod ({ cls := "SlitDrum", name := "status", desc := "(I)I" } : Jvm.MethodName)) ∈ wt_ := wt_in (i := 990) (by decide +kernel) rfl
theorem m_991 : (Jvm.Cond.selects "SlitDrum" ({ cls := "SlitDrum", name := "status", desc := "(I)I" } : Jvm.MethodName) ({ cls := "SlitDrum", name := "status", desc := "(I)I" } : Jvm.MethodName)) ∈ wt_ := wt_in (i := 991) (by decide +kernel) rfl
theorem m_992 : (Jvm.Cond.code ({ cls := "SlitDrum", name := "status", desc := "(I)I" } : Jvm.MethodName) prog_1_method_32_code (2 : Nat) (Option.some Jvm.ClassFile.FieldType.int)) ∈ wt_ := wt_in (i := 992) (by decide +kernel) rfl
theorem m_993 : (Jvm.Cond.methodLink "SlitDrumLaw" (107 : Nat) ({ cls := "SlitDrum", name := "undo", desc := "()I" } : Jvm.MethodName)) ∈ wt_ := wt_in (i := 993) (by decide +kernel) rfl
theorem m_994 : (Jvm.Cond.instanceMethod ({ cls := "SlitDrum", name := "undo", desc := "()I" } : Jvm.MethodName)) ∈ wt_ := wt_in (i := 994) (by decide +kernel) rfl
theorem m_995 : (Jvm.Cond.selects "SlitDrum" ({ cls := "SlitDrum", name := "undo", desc := "()I" } : Jvm.MethodName) ({ cls := "SlitDrum", name := "undo", desc := "()I" } : Jvm.MethodName)) ∈ wt_ := wt_in (i := 995) (by decide +kernel) rfl
theorem m_996 : (Jvm.Cond.code ({ cls := "SlitDrum", name := "undo", desc := "()I" } : Jvm.MethodName) prog_1_method_33_code (1 : Nat) (Option.some Jvm.ClassFile.FieldType.int)) ∈ wt_ := wt_in (i := 996) (by decide +kernel) rfl
theorem m_997 : (Jvm.Cond.methodLink "SlitDrum" (246 : Nat) ({ cls := "SlitDrum$Past", name := "bringBack", desc := "(LSlitDrum$Scene;)I" } : Jvm.MethodName)) ∈ wt_ := wt_in (i := 997) (by decide +kernel) rfl
theorem m_998 : (Jvm.Cond.instanceMethod ({ cls := "SlitDrum$Past", name := "bringBack", desc := "(LSlitDrum$Scene;)I" } : Jvm.MethodName)) ∈ wt_ := wt_in (i := 998) (by decide +kernel) rfl
theorem m_999 : (Jvm.Cond.selects "SlitDrum$Past" ({ cls := "SlitDrum$Past", name := "bringBack", desc := "(LSlitDrum$Scene;)I" } : Jvm.MethodName) ({ cls := "SlitDrum$Past", name := "bringBack", desc := "(LSlitDrum$Scene;)I" } : Jvm.MethodName)) ∈ wt_ := wt_in (i := 999) (by decide +kernel) rfl
theorem m_1000 : (Jvm.Cond.code ({ cls := "SlitDrum$Past", name := "bringBack", desc := "(LSlitDrum$Scene;)I" } : Jvm.MethodName) prog_7_method_4_code (2 : Nat) (Option.some Jvm.ClassFile.FieldType.int)) ∈ wt_ := wt_in (i := 1000) (by decide +kernel) rfl
theorem m_1001 : (Jvm.Cond.methodLink "SlitDrumLaw" (111 : Nat) ({ cls := "SlitDrum", name := "log", desc := "(II)I" } : Jvm.MethodName)) ∈ wt_ := wt_in (i := 1001) (by decide +kernel) rfl
theorem m_1002 : (Jvm.Cond.instanceMethod ({ cls := "SlitDrum", name := "log", desc := "(II)I" } : Jvm.MethodName)) ∈ wt_ := wt_in (i := 1002) (by decide +kernel) rfl
theorem m_1003 : (Jvm.Cond.selects "SlitDrum" ({ cls := "SlitDrum", name := "log", desc := "(II)I" } : Jvm.MethodName) ({ cls := "SlitDrum", name := "log", desc := "(II)I" } : Jvm.MethodName)) ∈ wt_ := wt_in (i := 1003) (by decide +kernel) rfl
theorem m_1004 : (Jvm.Cond.code ({ cls := "SlitDrum", name := "log", desc := "(II)I" } : Jvm.MethodName) prog_1_method_34_code (3 : Nat) (Option.some Jvm.ClassFile.FieldType.int)) ∈ wt_ := wt_in (i := 1004) (by decide +kernel) rfl
theorem m_1005 : (Jvm.Cond.methodLink "SlitDrum" (250 : Nat) ({ cls := "SlitDrum$Scene", name := "rowCount", desc := "()I" } : Jvm.MethodName)) ∈ wt_ := wt_in (i := 1005) (by decide +kernel) rfl
theorem m_1006 : (Jvm.Cond.instanceMethod ({ cls := "SlitDrum$Scene", name := "rowCount", desc := "()I" } : Jvm.MethodName)) ∈ wt_ := wt_in (i := 1006) (by decide +kernel) rfl
theorem m_1007 : (Jvm.Cond.selects "SlitDrum$Scene" ({ cls := "SlitDrum$Scene", name := "rowCount", desc := "()I" } : Jvm.MethodName) ({ cls := "SlitDrum$Scene", name := "rowCount", desc := "()I" } : Jvm.MethodName)) ∈ wt_ := wt_in (i := 1007) (by decide +kernel) rfl
theorem m_1008 : (Jvm.Cond.code ({ cls := "SlitDrum$Scene", name := "rowCount", desc := "()I" } : Jvm.MethodName) prog_9_method_4_code (1 : Nat) (Option.some Jvm.ClassFile.FieldType.int)) ∈ wt_ := wt_in (i := 1008) (by decide +kernel) rfl
theorem m_1009 : (Jvm.Cond.methodLink "SlitDrum$Scene" (55 : Nat) ({ cls := "java/lang/Math", name := "min", desc := "(II)I" } : Jvm.MethodName)) ∈ wt_ := wt_in (i := 1009) (by decide +kernel) rfl
theorem m_1010 : (Jvm.Cond.methodLink "SlitDrum" (253 : Nat) ({ cls := "SlitDrum$Scene", name := "rowBefore", desc := "(I)I" } : Jvm.MethodName)) ∈ wt_ := wt_in (i := 1010) (by decide +kernel) rfl
theorem m_1011 : (Jvm.Cond.instanceMethod ({ cls := "SlitDrum$Scene", name := "rowBefore", desc := "(I)I" } : Jvm.MethodName)) ∈ wt_ := wt_in (i := 1011) (by decide +kernel) rfl
theorem m_1012 : (Jvm.Cond.selects "SlitDrum$Scene" ({ cls := "SlitDrum$Scene", name := "rowBefore", desc := "(I)I" } : Jvm.MethodName) ({ cls := "SlitDrum$Scene", name := "rowBefore", desc := "(I)I" } : Jvm.MethodName)) ∈ wt_ := wt_in (i := 1012) (by decide +kernel) rfl
theorem m_1013 : (Jvm.Cond.code ({ cls := "SlitDrum$Scene", name := "rowBefore", desc := "(I)I" } : Jvm.MethodName) prog_9_method_5_code (2 : Nat) (Option.some Jvm.ClassFile.FieldType.int)) ∈ wt_ := wt_in (i := 1013) (by decide +kernel) rfl
theorem m_1014 : (Jvm.Cond.methodLink "SlitDrumLaw" (115 : Nat) ({ cls := "SlitDrum", name := "at", desc := "(II)I" } : Jvm.MethodName)) ∈ wt_ := wt_in (i := 1014) (by decide +kernel) rfl
theorem m_1015 : (Jvm.Cond.instanceMethod ({ cls := "SlitDrum", name := "at", desc := "(II)I" } : Jvm.MethodName)) ∈ wt_ := wt_in (i := 1015) (by decide +kernel) rfl
theorem m_1016 : (Jvm.Cond.selects "SlitDrum" ({ cls := "SlitDrum", name := "at", desc := "(II)I" } : Jvm.MethodName) ({ cls := "SlitDrum", name := "at", desc := "(II)I" } : Jvm.MethodName)) ∈ wt_ := wt_in (i := 1016) (by decide +kernel) rfl
theorem m_1017 : (Jvm.Cond.code ({ cls := "SlitDrum", name := "at", desc := "(II)I" } : Jvm.MethodName) prog_1_method_42_code (3 : Nat) (Option.some Jvm.ClassFile.FieldType.int)) ∈ wt_ := wt_in (i := 1017) (by decide +kernel) rfl
theorem m_1018 : (Jvm.Cond.methodLink "SlitDrum" (280 : Nat) ({ cls := "SlitDrum", name := "traced", desc := "(I)LSlitDrum$Course;" } : Jvm.MethodName)) ∈ wt_ := wt_in (i := 1018) (by decide +kernel) rfl
theorem m_1020 : (Jvm.Cond.instanceMethod ({ cls := "SlitDrum", name := "traced", desc := "(I)LSlitDrum$Course;" } : Jvm.MethodName)) ∈ wt_ := wt_in (i := 1020) (by decide +kernel) rfl
theorem m_1021 : (Jvm.Cond.code ({ cls := "SlitDrum", name := "traced", desc := "(I)LSlitDrum$Course;" } : Jvm.MethodName) prog_1_method_51_code (3 : Nat) (Option.some (Jvm.ClassFile.FieldType.object "SlitDrum$Course"))) ∈ wt_ := wt_in (i := 1021) (by decide +kernel) rfl
theorem m_1022 : (Jvm.Cond.methodLink "SlitDrum" (314 : Nat) ({ cls := "SlitDrum$Course", name := "trace", desc := "()V" } : Jvm.MethodName)) ∈ wt_ := wt_in (i := 1022) (by decide +kernel) rfl
theorem m_1023 : (Jvm.Cond.instanceMethod ({ cls := "SlitDrum$Course", name := "trace", desc := "()V" } : Jvm.MethodName)) ∈ wt_ := wt_in (i := 1023) (by decide +kernel) rfl
theorem m_1024 : (Jvm.Cond.selects "SlitDrum$Course" ({ cls := "SlitDrum$Course", name := "trace", desc := "()V" } : Jvm.MethodName) ({ cls := "SlitDrum$Course", name := "trace", desc := "()V" } : Jvm.MethodName)) ∈ wt_ := wt_in (i := 1024) (by decide +kernel) rfl
theorem m_1025 : (Jvm.Cond.code ({ cls := "SlitDrum$Course", name := "trace", desc := "()V" } : Jvm.MethodName) prog_2_method_4_code (3 : Nat) (Option.none : Option Jvm.ClassFile.FieldType)) ∈ wt_ := wt_in (i := 1025) (by decide +kernel) rfl
theorem m_1026 : (Jvm.Cond.methodLink "SlitDrum$Course" (79 : Nat) ({ cls := "java/util/Arrays", name := "fill", desc := "([II)V" } : Jvm.MethodName)) ∈ wt_ := wt_in (i := 1026) (by decide +kernel) rfl
theorem m_1027 : (Jvm.Cond.static ({ cls := "java/util/Arrays", name := "fill", desc := "([II)V" } : Jvm.MethodName)) ∈ wt_ := wt_in (i := 1027) (by decide +kernel) rfl
theorem m_1028 : (Jvm.Cond.code ({ cls := "java/util/Arrays", name := "fill", desc := "([II)V" } : Jvm.MethodName) prog_31_method_103_code (4 : Nat) (Option.none : Option Jvm.ClassFile.FieldType)) ∈ wt_ := wt_in (i := 1028) (by decide +kernel) rfl
theorem m_1029 : (Jvm.Cond.methodLink "SlitDrum$Course" (85 : Nat) ({ cls := "SlitDrum$Course", name := "movedFrom", desc := "(II)I" } : Jvm.MethodName)) ∈ wt_ := wt_in (i := 1029) (by decide +kernel) rfl
theorem m_1030 : (Jvm.Cond.methodLink "SlitDrum" (284 : Nat) ({ cls := "SlitDrum$Course", name := "shownAfter", desc := "(I)I" } : Jvm.MethodName)) ∈ wt_ := wt_in (i := 1030) (by decide +kernel) rfl
theorem m_1031 : (Jvm.Cond.instanceMethod ({ cls := "SlitDrum$Course", name := "shownAfter", desc := "(I)I" } : Jvm.MethodName)) ∈ wt_ := wt_in (i := 1031) (by decide +kernel) rfl
theorem m_1032 : (Jvm.Cond.selects "SlitDrum$Course" ({ cls := "SlitDrum$Course", name := "shownAfter", desc := "(I)I" } : Jvm.MethodName) ({ cls := "SlitDrum$Course", name := "shownAfter", desc := "(I)I" } : Jvm.MethodName)) ∈ wt_ := wt_in (i := 1032) (by decide +kernel) rfl
theorem m_1033 : (Jvm.Cond.code ({ cls := "SlitDrum$Course", name := "shownAfter", desc := "(I)I" } : Jvm.MethodName) prog_2_method_6_code (2 : Nat) (Option.some Jvm.ClassFile.FieldType.int)) ∈ wt_ := wt_in (i := 1033) (by decide +kernel) rfl
theorem m_1034 : (Jvm.Cond.methodLink "SlitDrum$Course" (88 : Nat) ({ cls := "SlitDrum$Course", name := "placeAfter", desc := "(I)I" } : Jvm.MethodName)) ∈ wt_ := wt_in (i := 1034) (by decide +kernel) rfl
theorem m_1035 : (Jvm.Cond.instanceMethod ({ cls := "SlitDrum$Course", name := "placeAfter", desc := "(I)I" } : Jvm.MethodName)) ∈ wt_ := wt_in (i := 1035) (by decide +kernel) rfl
theorem m_1036 : (Jvm.Cond.selects "SlitDrum$Course" ({ cls := "SlitDrum$Course", name := "placeAfter", desc := "(I)I" } : Jvm.MethodName) ({ cls := "SlitDrum$Course", name := "placeAfter", desc := "(I)I" } : Jvm.MethodName)) ∈ wt_ := wt_in (i := 1036) (by decide +kernel) rfl
theorem m_1037 : (Jvm.Cond.code ({ cls := "SlitDrum$Course", name := "placeAfter", desc := "(I)I" } : Jvm.MethodName) prog_2_method_5_code (3 : Nat) (Option.some Jvm.ClassFile.FieldType.int)) ∈ wt_ := wt_in (i := 1037) (by decide +kernel) rfl
theorem m_1038 : (Jvm.Cond.methodLink "SlitDrumLaw" (119 : Nat) ({ cls := "SlitDrum", name := "seems", desc := "(II)I" } : Jvm.MethodName)) ∈ wt_ := wt_in (i := 1038) (by decide +kernel) rfl
theorem m_1039 : (Jvm.Cond.instanceMethod ({ cls := "SlitDrum", name := "seems", desc := "(II)I" } : Jvm.MethodName)) ∈ wt_ := wt_in (i := 1039) (by decide +kernel) rfl
theorem m_1040 : (Jvm.Cond.selects "SlitDrum" ({ cls := "SlitDrum", name := "seems", desc := "(II)I" } : Jvm.MethodName) ({ cls := "SlitDrum", name := "seems", desc := "(II)I" } : Jvm.MethodName)) ∈ wt_ := wt_in (i := 1040) (by decide +kernel) rfl
theorem m_1041 : (Jvm.Cond.code ({ cls := "SlitDrum", name := "seems", desc := "(II)I" } : Jvm.MethodName) prog_1_method_43_code (6 : Nat) (Option.some Jvm.ClassFile.FieldType.int)) ∈ wt_ := wt_in (i := 1041) (by decide +kernel) rfl
theorem m_1042 : (Jvm.Cond.constant "SlitDrum" (287 : Nat) (-1000000 : Int32)) ∈ wt_ := wt_in (i := 1042) (by decide +kernel) rfl
theorem m_1043 : (Jvm.Cond.methodLink "SlitDrum" (288 : Nat) ({ cls := "SlitDrum$Course", name := "placeAfter", desc := "(I)I" } : Jvm.MethodName)) ∈ wt_ := wt_in (i := 1043) (by decide +kernel) rfl
theorem m_1044 : (Jvm.Cond.methodLink "SlitDrumLaw" (123 : Nat) ({ cls := "SlitDrum", name := "stands", desc := "(II)I" } : Jvm.MethodName)) ∈ wt_ := wt_in (i := 1044) (by decide +kernel) rfl
theorem m_1045 : (Jvm.Cond.instanceMethod ({ cls := "SlitDrum", name := "stands", desc := "(II)I" } : Jvm.MethodName)) ∈ wt_ := wt_in (i := 1045) (by decide +kernel) rfl
theorem m_1046 : (Jvm.Cond.selects "SlitDrum" ({ cls := "SlitDrum", name := "stands", desc := "(II)I" } : Jvm.MethodName) ({ cls := "SlitDrum", name := "stands", desc := "(II)I" } : Jvm.MethodName)) ∈ wt_ := wt_in (i := 1046) (by decide +kernel) rfl
theorem m_1047 : (Jvm.Cond.code ({ cls := "SlitDrum", name := "stands", desc := "(II)I" } : Jvm.MethodName) prog_1_method_44_code (6 : Nat) (Option.some Jvm.ClassFile.FieldType.int)) ∈ wt_ := wt_in (i := 1047) (by decide +kernel) rfl
theorem m_1048 : (Jvm.Cond.methodLink "SlitDrum" (291 : Nat) ({ cls := "SlitDrum$Course", name := "isStillBy", desc := "(I)Z" } : Jvm.MethodName)) ∈ wt_ := wt_in (i := 1048) (by decide +kernel) rfl
theorem m_1049 : (Jvm.Cond.instanceMethod ({ cls := "SlitDrum$Course", name := "isStillBy", desc := "(I)Z" } : Jvm.MethodName)) ∈ wt_ := wt_in (i := 1049) (by decide +kernel) rfl
theorem m_1050 : (Jvm.Cond.selects "SlitDrum$Course" ({ cls := "SlitDrum$Course", name := "isStillBy", desc := "(I)Z" } : Jvm.MethodName) ({ cls := "SlitDrum$Course", name := "isStillBy", desc := "(I)Z" } : Jvm.MethodName)) ∈ wt_ := wt_in (i := 1050) (by decide +kernel) rfl
theorem m_1051 : (Jvm.Cond.code ({ cls := "SlitDrum$Course", name := "isStillBy", desc := "(I)Z" } : Jvm.MethodName) prog_2_method_8_code (4 : Nat) (Option.some Jvm.ClassFile.FieldType.boolean)) ∈ wt_ := wt_in (i := 1051) (by decide +kernel) rfl
theorem m_1052 : (Jvm.Cond.methodLink "SlitDrum$Course" (91 : Nat) ({ cls := "SlitDrum$Course", name := "isHomeAfter", desc := "(I)Z" } : Jvm.MethodName)) ∈ wt_ := wt_in (i := 1052) (by decide +kernel) rfl
theorem m_1053 : (Jvm.Cond.instanceMethod ({ cls := "SlitDrum$Course", name := "isHomeAfter", desc := "(I)Z" } : Jvm.MethodName)) ∈ wt_ := wt_in (i := 1053) (by decide +kernel) rfl
theorem m_1054 : (Jvm.Cond.selects "SlitDrum$Course" ({ cls := "SlitDrum$Course", name := "isHomeAfter", desc := "(I)Z" } : Jvm.MethodName) ({ cls := "SlitDrum$Course", name := "isHomeAfter", desc := "(I)Z" } : Jvm.MethodName)) ∈ wt_ := wt_in (i := 1054) (by decide +kernel) rfl
theorem m_1055 : (Jvm.Cond.code ({ cls := "SlitDrum$Course", name := "isHomeAfter", desc := "(I)Z" } : Jvm.MethodName) prog_2_method_7_code (2 : Nat) (Option.some Jvm.ClassFile.FieldType.boolean)) ∈ wt_ := wt_in (i := 1055) (by decide +kernel) rfl
theorem m_1056 : (Jvm.Cond.methodLink "SlitDrumLaw" (127 : Nat) ({ cls := "SlitDrum", name := "together", desc := "()I" } : Jvm.MethodName)) ∈ wt_ := wt_in (i := 1056) (by decide +kernel) rfl
theorem m_1057 : (Jvm.Cond.instanceMethod ({ cls := "SlitDrum", name := "together", desc := "()I" } : Jvm.MethodName)) ∈ wt_ := wt_in (i := 1057) (by decide +kernel) rfl
theorem m_1058 : (Jvm.Cond.selects "SlitDrum" ({ cls := "SlitDrum", name := "together", desc := "()I" } : Jvm.MethodName) ({ cls := "SlitDrum", name := "together", desc := "()I" } : Jvm.MethodName)) ∈ wt_ := wt_in (i := 1058) (by decide +kernel) rfl
theorem m_1059 : (Jvm.Cond.code ({ cls := "SlitDrum", name := "together", desc := "()I" } : Jvm.MethodName) prog_1_method_45_code (4 : Nat) (Option.some Jvm.ClassFile.FieldType.int)) ∈ wt_ := wt_in (i := 1059) (by decide +kernel) rfl
theorem m_1060 : (Jvm.Cond.methodLink "SlitDrum" (294 : Nat) ({ cls := "SlitDrum", name := "traceAll", desc := "()V" } : Jvm.MethodName)) ∈ wt_ := wt_in (i := 1060) (by decide +kernel) rfl
theorem m_1062 : (Jvm.Cond.instanceMethod ({ cls := "SlitDrum", name := "traceAll", desc := "()V" } : Jvm.MethodName)) ∈ wt_ := wt_in (i := 1062) (by decide +kernel) rfl
theorem m_1063 : (Jvm.Cond.code ({ cls := "SlitDrum", name := "traceAll", desc := "()V" } : Jvm.MethodName) prog_1_method_52_code (2 : Nat) (Option.none : Option Jvm.ClassFile.FieldType)) ∈ wt_ := wt_in (i := 1063) (by decide +kernel) rfl
theorem m_1064 : (Jvm.Cond.methodLink "SlitDrumLaw" (131 : Nat) ({ cls := "SlitDrum", name := "again", desc := "(I)I" } : Jvm.MethodName)) ∈ wt_ := wt_in (i := 1064) (by decide +kernel) rfl
theorem m_1065 : (Jvm.Cond.instanceMethod ({ cls := "SlitDrum", name := "again", desc := "(I)I" } : Jvm.MethodName)) ∈ wt_ := wt_in (i := 1065) (by decide +kernel) rfl
theorem m_1066 : (Jvm.Cond.selects "SlitDrum" ({ cls := "SlitDrum", name := "again", desc := "(I)I" } : Jvm.MethodName) ({ cls := "SlitDrum", name := "again", desc := "(I)I" } : Jvm.MethodName)) ∈ wt_ := wt_in (i := 1066) (by decide +kernel) rfl
theorem m_1067 : (Jvm.Cond.code ({ cls := "SlitDrum", name := "again", desc := "(I)I" } : Jvm.MethodName) prog_1_method_46_code (9 : Nat) (Option.some Jvm.ClassFile.FieldType.int)) ∈ wt_ := wt_in (i := 1067) (by decide +kernel) rfl
theorem m_1068 : (Jvm.Cond.methodLink "SlitDrum" (297 : Nat) ({ cls := "SlitDrum$Course", name := "isHomeAfter", desc := "(I)Z" } : Jvm.MethodName)) ∈ wt_ := wt_in (i := 1068) (by decide +kernel) rfl
theorem m_1069 : (Jvm.Cond.methodLink "SlitDrumLaw" (135 : Nat) ({ cls := "SlitDrum", name := "meets", desc := "(II)I" } : Jvm.MethodName)) ∈ wt_ := wt_in (i := 1069) (by decide +kernel) rfl
theorem m_1070 : (Jvm.Cond.instanceMethod ({ cls := "SlitDrum", name := "meets", desc := "(II)I" } : Jvm.MethodName)) ∈ wt_ := wt_in (i := 1070) (by decide +kernel) rfl
theorem m_1071 : (Jvm.Cond.selects "SlitDrum" ({ cls := "SlitDrum", name := "meets", desc := "(II)I" } : Jvm.MethodName) ({ cls := "SlitDrum", name := "meets", desc := "(II)I" } : Jvm.MethodName)) ∈ wt_ := wt_in (i := 1071) (by decide +kernel) rfl
theorem m_1072 : (Jvm.Cond.code ({ cls := "SlitDrum", name := "meets", desc := "(II)I" } : Jvm.MethodName) prog_1_method_47_code (7 : Nat) (Option.some Jvm.ClassFile.FieldType.int)) ∈ wt_ := wt_in (i := 1072) (by decide +kernel) rfl
theorem m_1073 : (Jvm.Cond.methodLink "SlitDrumLaw" (139 : Nat) ({ cls := "SlitDrum", name := "reads", desc := "(I)I" } : Jvm.MethodName)) ∈ wt_ := wt_in (i := 1073) (by decide +kernel) rfl
theorem m_1074 : (Jvm.Cond.instanceMethod ({ cls := "SlitDrum", name := "reads", desc := "(I)I" } : Jvm.MethodName)) ∈ wt_ := wt_in (i := 1074) (by decide +kernel) rfl
theorem m_1075 : (Jvm.Cond.selects "SlitDrum" ({ cls := "SlitDrum", name := "reads", desc := "(I)I" } : Jvm.MethodName) ({ cls := "SlitDrum", name := "reads", desc := "(I)I" } : Jvm.MethodName)) ∈ wt_ := wt_in (i := 1075) (by decide +kernel) rfl
theorem m_1076 : (Jvm.Cond.code ({ cls := "SlitDrum", name := "reads", desc := "(I)I" } : Jvm.MethodName) prog_1_method_48_code (5 : Nat) (Option.some Jvm.ClassFile.FieldType.int)) ∈ wt_ := wt_in (i := 1076) (by decide +kernel) rfl
theorem m_1077 : (Jvm.Cond.methodLink "SlitDrumLaw" (143 : Nat) ({ cls := "SlitDrum", name := "period", desc := "(I)I" } : Jvm.MethodName)) ∈ wt_ := wt_in (i := 1077) (by decide +kernel) rfl
theorem m_1078 : (Jvm.Cond.instanceMethod ({ cls := "SlitDrum", name := "period", desc := "(I)I" } : Jvm.MethodName)) ∈ wt_ := wt_in (i := 1078) (by decide +kernel) rfl
theorem m_1079 : (Jvm.Cond.selects "SlitDrum" ({ cls := "SlitDrum", name := "period", desc := "(I)I" } : Jvm.MethodName) ({ cls := "SlitDrum", name := "period", desc := "(I)I" } : Jvm.MethodName)) ∈ wt_ := wt_in (i := 1079) (by decide +kernel) rfl
theorem m_1080 : (Jvm.Cond.code ({ cls := "SlitDrum", name := "period", desc := "(I)I" } : Jvm.MethodName) prog_1_method_53_code (2 : Nat) (Option.some Jvm.ClassFile.FieldType.int)) ∈ wt_ := wt_in (i := 1080) (by decide +kernel) rfl
theorem m_1081 : (Jvm.Cond.methodLink "SlitDrum" (317 : Nat) ({ cls := "SlitDrum$Strip", name := "leastPeriod", desc := "()I" } : Jvm.MethodName)) ∈ wt_ := wt_in (i := 1081) (by decide +kernel) rfl
theorem m_1082 : (Jvm.Cond.instanceMethod ({ cls := "SlitDrum$Strip", name := "leastPeriod", desc := "()I" } : Jvm.MethodName)) ∈ wt_ := wt_in (i := 1082) (by decide +kernel) rfl
theorem m_1083 : (Jvm.Cond.selects "SlitDrum$Strip" ({ cls := "SlitDrum$Strip", name := "leastPeriod", desc := "()I" } : Jvm.MethodName) ({ cls := "SlitDrum$Strip", name := "leastPeriod", desc := "()I" } : Jvm.MethodName)) ∈ wt_ := wt_in (i := 1083) (by decide +kernel) rfl
theorem m_1084 : (Jvm.Cond.code ({ cls := "SlitDrum$Strip", name := "leastPeriod", desc := "()I" } : Jvm.MethodName) prog_10_method_5_code (2 : Nat) (Option.some Jvm.ClassFile.FieldType.int)) ∈ wt_ := wt_in (i := 1084) (by decide +kernel) rfl
theorem m_1085 : (Jvm.Cond.methodLink "SlitDrum$Strip" (19 : Nat) ({ cls := "SlitDrum$Strip", name := "size", desc := "()I" } : Jvm.MethodName)) ∈ wt_ := wt_in (i := 1085) (by decide +kernel) rfl
theorem m_1086 : (Jvm.Cond.methodLink "SlitDrum$Strip" (23 : Nat) ({ cls := "SlitDrum$Strip", name := "isRow", desc := "(LSlitDrum$Strip;IZ)Z" } : Jvm.MethodName)) ∈ wt_ := wt_in (i := 1086) (by decide +kernel) rfl
theorem m_1088 : (Jvm.Cond.instanceMethod ({ cls := "SlitDrum$Strip", name := "isRow", desc := "(LSlitDrum$Strip;IZ)Z" } : Jvm.MethodName)) ∈ wt_ := wt_in (i := 1088) (by decide +kernel) rfl
theorem m_1089 : (Jvm.Cond.code ({ cls := "SlitDrum$Strip", name := "isRow", desc := "(LSlitDrum$Strip;IZ)Z" } : Jvm.MethodName) prog_10_method_7_code (7 : Nat) (Option.some Jvm.ClassFile.FieldType.boolean)) ∈ wt_ := wt_in (i := 1089) (by decide +kernel) rfl
theorem m_1090 : (Jvm.Cond.methodLink "SlitDrum$Strip" (27 : Nat) ({ cls := "SlitDrum$Strip", name := "shownAt", desc := "(I)I" } : Jvm.MethodName)) ∈ wt_ := wt_in (i := 1090) (by decide +kernel) rfl
theorem m_1091 : (Jvm.Cond.methodLink "SlitDrumLaw" (147 : Nat) ({ cls := "SlitDrum", name := "least", desc := "(I)I" } : Jvm.MethodName)) ∈ wt_ := wt_in (i := 1091) (by decide +kernel) rfl
theorem m_1092 : (Jvm.Cond.instanceMethod ({ cls := "SlitDrum", name := "least", desc := "(I)I" } : Jvm.MethodName)) ∈ wt_ := wt_in (i := 1092) (by decide +kernel) rfl
theorem m_1093 : (Jvm.Cond.selects "SlitDrum" ({ cls := "SlitDrum", name := "least", desc := "(I)I" } : Jvm.MethodName) ({ cls := "SlitDrum", name := "least", desc := "(I)I" } : Jvm.MethodName)) ∈ wt_ := wt_in (i := 1093) (by decide +kernel) rfl
theorem m_1094 : (Jvm.Cond.code ({ cls := "SlitDrum", name := "least", desc := "(I)I" } : Jvm.MethodName) prog_1_method_54_code (2 : Nat) (Option.some Jvm.ClassFile.FieldType.int)) ∈ wt_ := wt_in (i := 1094) (by decide +kernel) rfl
theorem m_1095 : (Jvm.Cond.methodLink "SlitDrum" (320 : Nat) ({ cls := "SlitDrum$Strip", name := "leastTurning", desc := "()I" } : Jvm.MethodName)) ∈ wt_ := wt_in (i := 1095) (by decide +kernel) rfl
theorem m_1096 : (Jvm.Cond.instanceMethod ({ cls := "SlitDrum$Strip", name := "leastTurning", desc := "()I" } : Jvm.MethodName)) ∈ wt_ := wt_in (i := 1096) (by decide +kernel) rfl
theorem m_1097 : (Jvm.Cond.selects "SlitDrum$Strip" ({ cls := "SlitDrum$Strip", name := "leastTurning", desc := "()I" } : Jvm.MethodName) ({ cls := "SlitDrum$Strip", name := "leastTurning", desc := "()I" } : Jvm.MethodName)) ∈ wt_ := wt_in (i := 1097) (by decide +kernel) rfl
theorem m_1098 : (Jvm.Cond.code ({ cls := "SlitDrum$Strip", name := "leastTurning", desc := "()I" } : Jvm.MethodName) prog_10_method_8_code (3 : Nat) (Option.some Jvm.ClassFile.FieldType.int)) ∈ wt_ := wt_in (i := 1098) (by decide +kernel) rfl
theorem m_1099 : (Jvm.Cond.methodLink "SlitDrum$Strip" (31 : Nat) ({ cls := "SlitDrum$Strip", name := "compareRows", desc := "(III)I" } : Jvm.MethodName)) ∈ wt_ := wt_in (i := 1099) (by decide +kernel) rfl
theorem m_1101 : (Jvm.Cond.instanceMethod ({ cls := "SlitDrum$Strip", name := "compareRows", desc := "(III)I" } : Jvm.MethodName)) ∈ wt_ := wt_in (i := 1101) (by decide +kernel) rfl
theorem m_1102 : (Jvm.Cond.code ({ cls := "SlitDrum$Strip", name := "compareRows", desc := "(III)I" } : Jvm.MethodName) prog_10_method_10_code (6 : Nat) (Option.some Jvm.ClassFile.FieldType.int)) ∈ wt_ := wt_in (i := 1102) (by decide +kernel) rfl
theorem m_1103 : (Jvm.Cond.methodLink "SlitDrum$Strip" (35 : Nat) ({ cls := "java/lang/Integer", name := "compare", desc := "(II)I" } : Jvm.MethodName)) ∈ wt_ := wt_in (i := 1103) (by decide +kernel) rfl
theorem m_1104 : (Jvm.Cond.static ({ cls := "java/lang/Integer", name := "compare", desc := "(II)I" } : Jvm.MethodName)) ∈ wt_ := wt_in (i := 1104) (by decide +kernel) rfl
theorem m_1105 : (Jvm.Cond.code ({ cls := "java/lang/Integer", name := "compare", desc := "(II)I" } : Jvm.MethodName) prog_21_method_40_code (2 : Nat) (Option.some Jvm.ClassFile.FieldType.int)) ∈ wt_ := wt_in (i := 1105) (by decide +kernel) rfl
theorem m_1106 : (Jvm.Cond.methodLink "SlitDrumLaw" (151 : Nat) ({ cls := "SlitDrum", name := "alike", desc := "(IIZ)I" } : Jvm.MethodName)) ∈ wt_ := wt_in (i := 1106) (by decide +kernel) rfl
theorem m_1107 : (Jvm.Cond.instanceMethod ({ cls := "SlitDrum", name := "alike", desc := "(IIZ)I" } : Jvm.MethodName)) ∈ wt_ := wt_in (i := 1107) (by decide +kernel) rfl
theorem m_1108 : (Jvm.Cond.selects "SlitDrum" ({ cls := "SlitDrum", name := "alike", desc := "(IIZ)I" } : Jvm.MethodName) ({ cls := "SlitDrum", name := "alike", desc := "(IIZ)I" } : Jvm.MethodName)) ∈ wt_ := wt_in (i := 1108) (by decide +kernel) rfl
theorem m_1109 : (Jvm.Cond.code ({ cls := "SlitDrum", name := "alike", desc := "(IIZ)I" } : Jvm.MethodName) prog_1_method_55_code (4 : Nat) (Option.some Jvm.ClassFile.FieldType.int)) ∈ wt_ := wt_in (i := 1109) (by decide +kernel) rfl
theorem m_1110 : (Jvm.Cond.methodLink "SlitDrum" (323 : Nat) ({ cls := "SlitDrum$Strip", name := "turningTo", desc := "(LSlitDrum$Strip;Z)I" } : Jvm.MethodName)) ∈ wt_ := wt_in (i := 1110) (by decide +kernel) rfl
theorem m_1111 : (Jvm.Cond.instanceMethod ({ cls := "SlitDrum$Strip", name := "turningTo", desc := "(LSlitDrum$Strip;Z)I" } : Jvm.MethodName)) ∈ wt_ := wt_in (i := 1111) (by decide +kernel) rfl
theorem m_1112 : (Jvm.Cond.selects "SlitDrum$Strip" ({ cls := "SlitDrum$Strip", name := "turningTo", desc := "(LSlitDrum$Strip;Z)I" } : Jvm.MethodName) ({ cls := "SlitDrum$Strip", name := "turningTo", desc := "(LSlitDrum$Strip;Z)I" } : Jvm.MethodName)) ∈ wt_ := wt_in (i := 1112) (by decide +kernel) rfl
theorem m_1113 : (Jvm.Cond.code ({ cls := "SlitDrum$Strip", name := "turningTo", desc := "(LSlitDrum$Strip;Z)I" } : Jvm.MethodName) prog_10_method_6_code (4 : Nat) (Option.some Jvm.ClassFile.FieldType.int)) ∈ wt_ := wt_in (i := 1113) (by decide +kernel) rfl
theorem m_1114 : (Jvm.Cond.methodLink "SlitDrumLaw" (156 : Nat) ({ cls := "SlitDrum", name := "mirror", desc := "(I)I" } : Jvm.MethodName)) ∈ wt_ := wt_in (i := 1114) (by decide +kernel) rfl
theorem m_1115 : (Jvm.Cond.instanceMethod ({ cls := "SlitDrum", name := "mirror", desc := "(I)I" } : Jvm.MethodName)) ∈ wt_ := wt_in (i := 1115) (by decide +kernel) rfl
theorem m_1116 : (Jvm.Cond.selects "SlitDrum" ({ cls := "SlitDrum", name := "mirror", desc := "(I)I" } : Jvm.MethodName) ({ cls := "SlitDrum", name := "mirror", desc := "(I)I" } : Jvm.MethodName)) ∈ wt_ := wt_in (i := 1116) (by decide +kernel) rfl
theorem m_1117 : (Jvm.Cond.code ({ cls := "SlitDrum", name := "mirror", desc := "(I)I" } : Jvm.MethodName) prog_1_method_56_code (2 : Nat) (Option.some Jvm.ClassFile.FieldType.int)) ∈ wt_ := wt_in (i := 1117) (by decide +kernel) rfl
theorem m_1118 : (Jvm.Cond.methodLink "SlitDrumLaw" (160 : Nat) ({ cls := "SlitDrum", name := "rows", desc := "(II)I" } : Jvm.MethodName)) ∈ wt_ := wt_in (i := 1118) (by decide +kernel) rfl
theorem m_1119 : (Jvm.Cond.instanceMethod ({ cls := "SlitDrum", name := "rows", desc := "(II)I" } : Jvm.MethodName)) ∈ wt_ := wt_in (i := 1119) (by decide +kernel) rfl
theorem m_1120 : (Jvm.Cond.selects "SlitDrum" ({ cls := "SlitDrum", name := "rows", desc := "(II)I" } : Jvm.MethodName) ({ cls := "SlitDrum", name := "rows", desc := "(II)I" } : Jvm.MethodName)) ∈ wt_ := wt_in (i := 1120) (by decide +kernel) rfl
theorem m_1121 : (Jvm.Cond.code ({ cls := "SlitDrum", name := "rows", desc := "(II)I" } : Jvm.MethodName) prog_1_method_57_code (3 : Nat) (Option.some Jvm.ClassFile.FieldType.int)) ∈ wt_ := wt_in (i := 1121) (by decide +kernel) rfl
theorem m_1122 : (Jvm.Cond.methodLink "SlitDrum" (327 : Nat) ({ cls := "SlitDrum$Strip", name := "unlikeRows", desc := "(I)I" } : Jvm.MethodName)) ∈ wt_ := wt_in (i := 1122) (by decide +kernel) rfl
theorem m_1123 : (Jvm.Cond.instanceMethod ({ cls := "SlitDrum$Strip", name := "unlikeRows", desc := "(I)I" } : Jvm.MethodName)) ∈ wt_ := wt_in (i := 1123) (by decide +kernel) rfl
theorem m_1124 : (Jvm.Cond.selects "SlitDrum$Strip" ({ cls := "SlitDrum$Strip", name := "unlikeRows", desc := "(I)I" } : Jvm.MethodName) ({ cls := "SlitDrum$Strip", name := "unlikeRows", desc := "(I)I" } : Jvm.MethodName)) ∈ wt_ := wt_in (i := 1124) (by decide +kernel) rfl
theorem m_1125 : (Jvm.Cond.code ({ cls := "SlitDrum$Strip", name := "unlikeRows", desc := "(I)I" } : Jvm.MethodName) prog_10_method_9_code (6 : Nat) (Option.some Jvm.ClassFile.FieldType.int)) ∈ wt_ := wt_in (i := 1125) (by decide +kernel) rfl
theorem m_1126 : (Jvm.Cond.methodLink "SlitDrumLaw" (164 : Nat) ({ cls := "SlitDrum", name := "kinds", desc := "(IIZ)I" } : Jvm.MethodName)) ∈ wt_ := wt_in (i := 1126) (by decide +kernel) rfl
theorem m_1127 : (Jvm.Cond.instanceMethod ({ cls := "SlitDrum", name := "kinds", desc := "(IIZ)I" } : Jvm.MethodName)) ∈ wt_ := wt_in (i := 1127) (by decide +kernel) rfl
theorem m_1128 : (Jvm.Cond.selects "SlitDrum" ({ cls := "SlitDrum", name := "kinds", desc := "(IIZ)I" } : Jvm.MethodName) ({ cls := "SlitDrum", name := "kinds", desc := "(IIZ)I" } : Jvm.MethodName)) ∈ wt_ := wt_in (i := 1128) (by decide +kernel) rfl
theorem m_1129 : (Jvm.Cond.code ({ cls := "SlitDrum", name := "kinds", desc := "(IIZ)I" } : Jvm.MethodName) prog_1_method_58_code (7 : Nat) (Option.some Jvm.ClassFile.FieldType.int)) ∈ wt_ := wt_in (i := 1129) (by decide +kernel) rfl
theorem m_1130 : (Jvm.Cond.methodLink "SlitDrum" (330 : Nat) ({ cls := "SlitDrum", name := "commonDivisor", desc := "(II)I" } : Jvm.MethodName)) ∈ wt_ := wt_in (i := 1130) (by decide +kernel) rfl
theorem m_1131 : (Jvm.Cond.static ({ cls := "SlitDrum", name := "commonDivisor", desc := "(II)I" } : Jvm.MethodName)) ∈ wt_ := wt_in (i := 1131) (by decide +kernel) rfl
theorem m_1132 : (Jvm.Cond.code ({ cls := "SlitDrum", name := "commonDivisor", desc := "(II)I" } : Jvm.MethodName) prog_1_method_60_code (3 : Nat) (Option.some Jvm.ClassFile.FieldType.int)) ∈ wt_ := wt_in (i := 1132) (by decide +kernel) rfl
theorem m_1133 : (Jvm.Cond.methodLink "SlitDrum" (333 : Nat) ({ cls := "SlitDrum", name := "power", desc := "(II)J" } : Jvm.MethodName)) ∈ wt_ := wt_in (i := 1133) (by decide +kernel) rfl
theorem m_1134 : (Jvm.Cond.static ({ cls := "SlitDrum", name := "power", desc := "(II)J" } : Jvm.MethodName)) ∈ wt_ := wt_in (i := 1134) (by decide +kernel) rfl
theorem m_1135 : (Jvm.Cond.code ({ cls := "SlitDrum", name := "power", desc := "(II)J" } : Jvm.MethodName) prog_1_method_59_code (5 : Nat) (Option.some Jvm.ClassFile.FieldType.long)) ∈ wt_ := wt_in (i := 1135) (by decide +kernel) rfl
theorem m_1136 : (Jvm.Cond.methodLink "SlitDrum" (337 : Nat) ({ cls := "SlitDrum", name := "pairsOver", desc := "(II)I" } : Jvm.MethodName)) ∈ wt_ := wt_in (i := 1136) (by decide +kernel) rfl
theorem m_1137 : (Jvm.Cond.static ({ cls := "SlitDrum", name := "pairsOver", desc := "(II)I" } : Jvm.MethodName)) ∈ wt_ := wt_in (i := 1137) (by decide +kernel) rfl
theorem m_1138 : (Jvm.Cond.code ({ cls := "SlitDrum", name := "pairsOver", desc := "(II)I" } : Jvm.MethodName) prog_1_method_61_code (4 : Nat) (Option.some Jvm.ClassFile.FieldType.int)) ∈ wt_ := wt_in (i := 1138) (by decide +kernel) rfl
theorem m_1139 : (Jvm.Cond.methodLink "SlitDrumLaw" (168 : Nat) ({ cls := "SlitDrum", name := "noted", desc := "(IIZ)I" } : Jvm.MethodName)) ∈ wt_ := wt_in (i := 1139) (by decide +kernel) rfl
theorem m_1140 : (Jvm.Cond.instanceMethod ({ cls := "SlitDrum", name := "noted", desc := "(IIZ)I" } : Jvm.MethodName)) ∈ wt_ := wt_in (i := 1140) (by decide +kernel) rfl
theorem m_1141 : (Jvm.Cond.selects "SlitDrum" ({ cls := "SlitDrum", name := "noted", desc := "(IIZ)I" } : Jvm.MethodName) ({ cls := "SlitDrum", name := "noted", desc := "(IIZ)I" } : Jvm.MethodName)) ∈ wt_ := wt_in (i := 1141) (by decide +kernel) rfl
theorem m_1142 : (Jvm.Cond.code ({ cls := "SlitDrum", name := "noted", desc := "(IIZ)I" } : Jvm.MethodName) prog_1_method_62_code (4 : Nat) (Option.some Jvm.ClassFile.FieldType.int)) ∈ wt_ := wt_in (i := 1142) (by decide +kernel) rfl
theorem m_1143 : (Jvm.Cond.methodLink "SlitDrum" (340 : Nat) ({ cls := "SlitDrum$Notes", name := "add", desc := "(IIZ)I" } : Jvm.MethodName)) ∈ wt_ := wt_in (i := 1143) (by decide +kernel) rfl
theorem m_1144 : (Jvm.Cond.instanceMethod ({ cls := "SlitDrum$Notes", name := "add", desc := "(IIZ)I" } : Jvm.MethodName)) ∈ wt_ := wt_in (i := 1144) (by decide +kernel) rfl
theorem m_1145 : (Jvm.Cond.selects "SlitDrum$Notes" ({ cls := "SlitDrum$Notes", name := "add", desc := "(IIZ)I" } : Jvm.MethodName) ({ cls := "SlitDrum$Notes", name := "add", desc := "(IIZ)I" } : Jvm.MethodName)) ∈ wt_ := wt_in (i := 1145) (by decide +kernel) rfl
theorem m_1146 : (Jvm.Cond.code ({ cls := "SlitDrum$Notes", name := "add", desc := "(IIZ)I" } : Jvm.MethodName) prog_6_method_3_code (4 : Nat) (Option.some Jvm.ClassFile.FieldType.int)) ∈ wt_ := wt_in (i := 1146) (by decide +kernel) rfl
theorem m_1147 : (Jvm.Cond.methodLink "SlitDrumLaw" (172 : Nat) ({ cls := "SlitDrum", name := "fits", desc := "(I)I" } : Jvm.MethodName)) ∈ wt_ := wt_in (i := 1147) (by decide +kernel) rfl
theorem m_1148 : (Jvm.Cond.instanceMethod ({ cls := "SlitDrum", name := "fits", desc := "(I)I" } : Jvm.MethodName)) ∈ wt_ := wt_in (i := 1148) (by decide +kernel) rfl
theorem m_1149 : (Jvm.Cond.selects "SlitDrum" ({ cls := "SlitDrum", name := "fits", desc := "(I)I" } : Jvm.MethodName) ({ cls := "SlitDrum", name := "fits", desc := "(I)I" } : Jvm.MethodName)) ∈ wt_ := wt_in (i := 1149) (by decide +kernel) rfl
theorem m_1150 : (Jvm.Cond.code ({ cls := "SlitDrum", name := "fits", desc := "(I)I" } : Jvm.MethodName) prog_1_method_63_code (2 : Nat) (Option.some Jvm.ClassFile.FieldType.int)) ∈ wt_ := wt_in (i := 1150) (by decide +kernel) rfl
theorem m_1151 : (Jvm.Cond.methodLink "SlitDrum" (344 : Nat) ({ cls := "SlitDrum$Notes", name := "find", desc := "([LSlitDrum$Strip;)V" } : Jvm.MethodName)) ∈ wt_ := wt_in (i := 1151) (by decide +kernel) rfl
theorem m_1152 : (Jvm.Cond.instanceMethod ({ cls := "SlitDrum$Notes", name := "find", desc := "([LSlitDrum$Strip;)V" } : Jvm.MethodName)) ∈ wt_ := wt_in (i := 1152) (by decide +kernel) rfl
theorem m_1153 : (Jvm.Cond.selects "SlitDrum$Notes" ({ cls := "SlitDrum$Notes", name := "find", desc := "([LSlitDrum$Strip;)V" } : Jvm.MethodName) ({ cls := "SlitDrum$Notes", name := "find", desc := "([LSlitDrum$Strip;)V" } : Jvm.MethodName)) ∈ wt_ := wt_in (i := 1153) (by decide +kernel) rfl
theorem m_1154 : (Jvm.Cond.code ({ cls := "SlitDrum$Notes", name := "find", desc := "([LSlitDrum$Strip;)V" } : Jvm.MethodName) prog_6_method_4_code (5 : Nat) (Option.none : Option Jvm.ClassFile.FieldType)) ∈ wt_ := wt_in (i := 1154) (by decide +kernel) rfl
theorem m_1155 : (Jvm.Cond.methodLink "SlitDrum$Notes" (35 : Nat) ({ cls := "SlitDrum$Strip", name := "size", desc := "()I" } : Jvm.MethodName)) ∈ wt_ := wt_in (i := 1155) (by decide +kernel) rfl
theorem m_1156 : (Jvm.Cond.methodLink "SlitDrum$Notes" (40 : Nat) ({ cls := "SlitDrum$Notes", name := "isSo", desc := "(LSlitDrum$Strip;II)Z" } : Jvm.MethodName)) ∈ wt_ := wt_in (i := 1156) (by decide +kernel) rfl
theorem m_1158 : (Jvm.Cond.instanceMethod ({ cls := "SlitDrum$Notes", name := "isSo", desc := "(LSlitDrum$Strip;II)Z" } : Jvm.MethodName)) ∈ wt_ := wt_in (i := 1158) (by decide +kernel) rfl
theorem m_1159 : (Jvm.Cond.code ({ cls := "SlitDrum$Notes", name := "isSo", desc := "(LSlitDrum$Strip;II)Z" } : Jvm.MethodName) prog_6_method_5_code (6 : Nat) (Option.some Jvm.ClassFile.FieldType.boolean)) ∈ wt_ := wt_in (i := 1159) (by decide +kernel) rfl
theorem m_1160 : (Jvm.Cond.methodLink "SlitDrum$Notes" (44 : Nat) ({ cls := "SlitDrum$Strip", name := "shownAt", desc := "(I)I" } : Jvm.MethodName)) ∈ wt_ := wt_in (i := 1160) (by decide +kernel) rfl
theorem m_1161 : (Jvm.Cond.methodLink "SlitDrum" (351 : Nat) ({ cls := "SlitDrum$Notes", name := "foundAt", desc := "(I)I" } : Jvm.MethodName)) ∈ wt_ := wt_in (i := 1161) (by decide +kernel) rfl
theorem m_1162 : (Jvm.Cond.instanceMethod ({ cls := "SlitDrum$Notes", name := "foundAt", desc := "(I)I" } : Jvm.MethodName)) ∈ wt_ := wt_in (i := 1162) (by decide +kernel) rfl
theorem m_1163 : (Jvm.Cond.selects "SlitDrum$Notes" ({ cls := "SlitDrum$Notes", name := "foundAt", desc := "(I)I" } : Jvm.MethodName) ({ cls := "SlitDrum$Notes", name := "foundAt", desc := "(I)I" } : Jvm.MethodName)) ∈ wt_ := wt_in (i := 1163) (by decide +kernel) rfl
theorem m_1164 : (Jvm.Cond.code ({ cls := "SlitDrum$Notes", name := "foundAt", desc := "(I)I" } : Jvm.MethodName) prog_6_method_6_code (2 : Nat) (Option.some Jvm.ClassFile.FieldType.int)) ∈ wt_ := wt_in (i := 1164) (by decide +kernel) rfl
theorem m_1165 : (Jvm.Cond.methodLink "SlitDrumLaw" (176 : Nat) ({ cls := "SlitDrum", name := "ask", desc := "()I" } : Jvm.MethodName)) ∈ wt_ := wt_in (i := 1165) (by decide +kernel) rfl
theorem m_1166 : (Jvm.Cond.instanceMethod ({ cls := "SlitDrum", name := "ask", desc := "()I" } : Jvm.MethodName)) ∈ wt_ := wt_in (i := 1166) (by decide +kernel) rfl
theorem m_1167 : (Jvm.Cond.selects "SlitDrum" ({ cls := "SlitDrum", name := "ask", desc := "()I" } : Jvm.MethodName) ({ cls := "SlitDrum", name := "ask", desc := "()I" } : Jvm.MethodName)) ∈ wt_ := wt_in (i := 1167) (by decide +kernel) rfl
theorem m_1168 : (Jvm.Cond.code ({ cls := "SlitDrum", name := "ask", desc := "()I" } : Jvm.MethodName) prog_1_method_64_code (1 : Nat) (Option.some Jvm.ClassFile.FieldType.int)) ∈ wt_ := wt_in (i := 1168) (by decide +kernel) rfl
theorem m_1169 : (Jvm.Cond.methodLink "SlitDrum" (354 : Nat) ({ cls := "SlitDrum$Notes", name := "bestTick", desc := "([LSlitDrum$Strip;)I" } : Jvm.MethodName)) ∈ wt_ := wt_in (i := 1169) (by decide +kernel) rfl
theorem m_1170 : (Jvm.Cond.instanceMethod ({ cls := "SlitDrum$Notes", name := "bestTick", desc := "([LSlitDrum$Strip;)I" } : Jvm.MethodName)) ∈ wt_ := wt_in (i := 1170) (by decide +kernel) rfl
theorem m_1171 : (Jvm.Cond.selects "SlitDrum$Notes" ({ cls := "SlitDrum$Notes", name := "bestTick", desc := "([LSlitDrum$Strip;)I" } : Jvm.MethodName) ({ cls := "SlitDrum$Notes", name := "bestTick", desc := "([LSlitDrum$Strip;)I" } : Jvm.MethodName)) ∈ wt_ := wt_in (i := 1171) (by decide +kernel) rfl
theorem m_1172 : (Jvm.Cond.code ({ cls := "SlitDrum$Notes", name := "bestTick", desc := "([LSlitDrum$Strip;)I" } : Jvm.MethodName) prog_6_method_7_code (6 : Nat) (Option.some Jvm.ClassFile.FieldType.int)) ∈ wt_ := wt_in (i := 1172) (by decide +kernel) rfl
theorem m_1173 : (Jvm.Cond.methodLink "SlitDrum$Notes" (48 : Nat) ({ cls := "SlitDrum$Notes", name := "mostAlike", desc := "([LSlitDrum$Strip;I)I" } : Jvm.MethodName)) ∈ wt_ := wt_in (i := 1173) (by decide +kernel) rfl
theorem m_1175 : (Jvm.Cond.instanceMethod ({ cls := "SlitDrum$Notes", name := "mostAlike", desc := "([LSlitDrum$Strip;I)I" } : Jvm.MethodName)) ∈ wt_ := wt_in (i := 1175) (by decide +kernel) rfl
theorem m_1176 : (Jvm.Cond.code ({ cls := "SlitDrum$Notes", name := "mostAlike", desc := "([LSlitDrum$Strip;I)I" } : Jvm.MethodName) prog_6_method_8_code (9 : Nat) (Option.some Jvm.ClassFile.FieldType.int)) ∈ wt_ := wt_in (i := 1176) (by decide +kernel) rfl
theorem m_1177 : (Jvm.Cond.methodLink "SlitDrum$Notes" (52 : Nat) ({ cls := "java/util/Arrays", name := "fill", desc := "([II)V" } : Jvm.MethodName)) ∈ wt_ := wt_in (i := 1177) (by decide +kernel) rfl
theorem m_1178 : (Jvm.Cond.methodLink "SlitDrum$Notes" (58 : Nat) ({ cls := "java/lang/Math", name := "max", desc := "(II)I" } : Jvm.MethodName)) ∈ wt_ := wt_in (i := 1178) (by decide +kernel) rfl
theorem m_1179 : (Jvm.Cond.methodLink "SlitDrumLaw" (180 : Nat) ({ cls := "SlitDrum", name := "game", desc := "(IIII)I" } : Jvm.MethodName)) ∈ wt_ := wt_in (i := 1179) (by decide +kernel) rfl
theorem m_1180 : (Jvm.Cond.instanceMethod ({ cls := "SlitDrum", name := "game", desc := "(IIII)I" } : Jvm.MethodName)) ∈ wt_ := wt_in (i := 1180) (by decide +kernel) rfl
theorem m_1181 : (Jvm.Cond.selects "SlitDrum" ({ cls := "SlitDrum", name := "game", desc := "(IIII)I" } : Jvm.MethodName) ({ cls := "SlitDrum", name := "game", desc := "(IIII)I" } : Jvm.MethodName)) ∈ wt_ := wt_in (i := 1181) (by decide +kernel) rfl
theorem m_1182 : (Jvm.Cond.code ({ cls := "SlitDrum", name := "game", desc := "(IIII)I" } : Jvm.MethodName) prog_1_method_65_code (5 : Nat) (Option.some Jvm.ClassFile.FieldType.int)) ∈ wt_ := wt_in (i := 1182) (by decide +kernel) rfl
theorem m_1183 : (Jvm.Cond.methodLink "SlitDrum" (358 : Nat) ({ cls := "SlitDrum", name := "lookerHas", desc := "(III)I" } : Jvm.MethodName)) ∈ wt_ := wt_in (i := 1183) (by decide +kernel) rfl
theorem m_1185 : (Jvm.Cond.instanceMethod ({ cls := "SlitDrum", name := "lookerHas", desc := "(III)I" } : Jvm.MethodName)) ∈ wt_ := wt_in (i := 1185) (by decide +kernel) rfl
theorem m_1186 : (Jvm.Cond.code ({ cls := "SlitDrum", name := "lookerHas", desc := "(III)I" } : Jvm.MethodName) prog_1_method_68_code (4 : Nat) (Option.some Jvm.ClassFile.FieldType.int)) ∈ wt_ := wt_in (i := 1186) (by decide +kernel) rfl
theorem m_1187 : (Jvm.Cond.methodLink "SlitDrum" (369 : Nat) ({ cls := "SlitDrum", name := "unlikeSeen", desc := "(LSlitDrum$Wheel;I)I" } : Jvm.MethodName)) ∈ wt_ := wt_in (i := 1187) (by decide +kernel) rfl
theorem m_1189 : (Jvm.Cond.instanceMethod ({ cls := "SlitDrum", name := "unlikeSeen", desc := "(LSlitDrum$Wheel;I)I" } : Jvm.MethodName)) ∈ wt_ := wt_in (i := 1189) (by decide +kernel) rfl
theorem m_1190 : (Jvm.Cond.code ({ cls := "SlitDrum", name := "unlikeSeen", desc := "(LSlitDrum$Wheel;I)I" } : Jvm.MethodName) prog_1_method_70_code (6 : Nat) (Option.some Jvm.ClassFile.FieldType.int)) ∈ wt_ := wt_in (i := 1190) (by decide +kernel) rfl
theorem m_1191 : (Jvm.Cond.methodLink "SlitDrum" (373 : Nat) ({ cls := "SlitDrum", name := "withoutBlank", desc := "(I)I" } : Jvm.MethodName)) ∈ wt_ := wt_in (i := 1191) (by decide +kernel) rfl
theorem m_1192 : (Jvm.Cond.static ({ cls := "SlitDrum", name := "withoutBlank", desc := "(I)I" } : Jvm.MethodName)) ∈ wt_ := wt_in (i := 1192) (by decide +kernel) rfl
theorem m_1193 : (Jvm.Cond.code ({ cls := "SlitDrum", name := "withoutBlank", desc := "(I)I" } : Jvm.MethodName) prog_1_method_71_code (1 : Nat) (Option.some Jvm.ClassFile.FieldType.int)) ∈ wt_ := wt_in (i := 1193) (by decide +kernel) rfl
theorem m_1194 : (Jvm.Cond.constant "SlitDrum" (381 : Nat) (67108863 : Int32)) ∈ wt_ := wt_in (i := 1194) (by decide +kernel) rfl
theorem m_1195 : (Jvm.Cond.methodLink "SlitDrum" (376 : Nat) ({ cls := "java/lang/Integer", name := "bitCount", desc := "(I)I" } : Jvm.MethodName)) ∈ wt_ := wt_in (i := 1195) (by decide +kernel) rfl
theorem m_1196 : (Jvm.Cond.static ({ cls := "java/lang/Integer", name := "bitCount", desc := "(I)I" } : Jvm.MethodName)) ∈ wt_ := wt_in (i := 1196) (by decide +kernel) rfl
theorem m_1197 : (Jvm.Cond.code ({ cls := "java/lang/Integer", name := "bitCount", desc := "(I)I" } : Jvm.MethodName) prog_21_method_49_code (1 : Nat) (Option.some Jvm.ClassFile.FieldType.int)) ∈ wt_ := wt_in (i := 1197) (by decide +kernel) rfl
theorem m_1198 : (Jvm.Cond.constant "java/lang/Integer" (265 : Nat) (1431655765 : Int32)) ∈ wt_ := wt_in (i := 1198) (by decide +kernel) rfl
theorem m_1199 : (Jvm.Cond.constant "java/lang/Integer" (266 : Nat) (858993459 : Int32)) ∈ wt_ := wt_in (i := 1199) (by decide +kernel) rfl
theorem m_1200 : (Jvm.Cond.constant "java/lang/Integer" (267 : Nat) (252645135 : Int32)) ∈ wt_ := wt_in (i := 1200) (by decide +kernel) rfl
theorem m_1201 : (Jvm.Cond.methodLink "SlitDrum" (362 : Nat) ({ cls := "SlitDrum", name := "turnerHas", desc := "(III)I" } : Jvm.MethodName)) ∈ wt_ := wt_in (i := 1201) (by decide +kernel) rfl
theorem m_1203 : (Jvm.Cond.instanceMethod ({ cls := "SlitDrum", name := "turnerHas", desc := "(III)I" } : Jvm.MethodName)) ∈ wt_ := wt_in (i := 1203) (by decide +kernel) rfl
theorem m_1204 : (Jvm.Cond.code ({ cls := "SlitDrum", name := "turnerHas", desc := "(III)I" } : Jvm.MethodName) prog_1_method_69_code (4 : Nat) (Option.some Jvm.ClassFile.FieldType.int)) ∈ wt_ := wt_in (i := 1204) (by decide +kernel) rfl
theorem m_1205 : (Jvm.Cond.methodLink "SlitDrumLaw" (185 : Nat) ({ cls := "SlitDrum", name := "rests", desc := "(II)I" } : Jvm.MethodName)) ∈ wt_ := wt_in (i := 1205) (by decide +kernel) rfl
theorem m_1206 : (Jvm.Cond.instanceMethod ({ cls := "SlitDrum", name := "rests", desc := "(II)I" } : Jvm.MethodName)) ∈ wt_ := wt_in (i := 1206) (by decide +kernel) rfl
theorem m_1207 : (Jvm.Cond.selects "SlitDrum" ({ cls := "SlitDrum", name := "rests", desc := "(II)I" } : Jvm.MethodName) ({ cls := "SlitDrum", name := "rests", desc := "(II)I" } : Jvm.MethodName)) ∈ wt_ := wt_in (i := 1207) (by decide +kernel) rfl
theorem m_1208 : (Jvm.Cond.code ({ cls := "SlitDrum", name := "rests", desc := "(II)I" } : Jvm.MethodName) prog_1_method_66_code (6 : Nat) (Option.some Jvm.ClassFile.FieldType.int)) ∈ wt_ := wt_in (i := 1208) (by decide +kernel) rfl
theorem m_1209 : (Jvm.Cond.methodLink "SlitDrum" (365 : Nat) ({ cls := "SlitDrum", name := "isRest", desc := "(III)Z" } : Jvm.MethodName)) ∈ wt_ := wt_in (i := 1209) (by decide +kernel) rfl
theorem m_1211 : (Jvm.Cond.instanceMethod ({ cls := "SlitDrum", name := "isRest", desc := "(III)Z" } : Jvm.MethodName)) ∈ wt_ := wt_in (i := 1211) (by decide +kernel) rfl
theorem m_1212 : (Jvm.Cond.code ({ cls := "SlitDrum", name := "isRest", desc := "(III)Z" } : Jvm.MethodName) prog_1_method_67_code (8 : Nat) (Option.some Jvm.ClassFile.FieldType.boolean)) ∈ wt_ := wt_in (i := 1212) (by decide +kernel) rfl
theorem m_1213 : (Jvm.Cond.methodLink "SlitDrumLaw" (189 : Nat) ({ cls := "SlitDrum", name := "odds", desc := "(IIII)I" } : Jvm.MethodName)) ∈ wt_ := wt_in (i := 1213) (by decide +kernel) rfl
theorem m_1214 : (Jvm.Cond.instanceMethod ({ cls := "SlitDrum", name := "odds", desc := "(IIII)I" } : Jvm.MethodName)) ∈ wt_ := wt_in (i := 1214) (by decide +kernel) rfl
theorem m_1215 : (Jvm.Cond.selects "SlitDrum" ({ cls := "SlitDrum", name := "odds", desc := "(IIII)I" } : Jvm.MethodName) ({ cls := "SlitDrum", name := "odds", desc := "(IIII)I" } : Jvm.MethodName)) ∈ wt_ := wt_in (i := 1215) (by decide +kernel) rfl
theorem m_1216 : (Jvm.Cond.code ({ cls := "SlitDrum", name := "odds", desc := "(IIII)I" } : Jvm.MethodName) prog_1_method_72_code (5 : Nat) (Option.some Jvm.ClassFile.FieldType.int)) ∈ wt_ := wt_in (i := 1216) (by decide +kernel) rfl
theorem m_1217 : (Jvm.Cond.methodLink "SlitDrum" (382 : Nat) ({ cls := "SlitDrum$Course", name := "partsShowing", desc := "(III)I" } : Jvm.MethodName)) ∈ wt_ := wt_in (i := 1217) (by decide +kernel) rfl
theorem m_1218 : (Jvm.Cond.instanceMethod ({ cls := "SlitDrum$Course", name := "partsShowing", desc := "(III)I" } : Jvm.MethodName)) ∈ wt_ := wt_in (i := 1218) (by decide +kernel) rfl
theorem m_1219 : (Jvm.Cond.selects "SlitDrum$Course" ({ cls := "SlitDrum$Course", name := "partsShowing", desc := "(III)I" } : Jvm.MethodName) ({ cls := "SlitDrum$Course", name := "partsShowing", desc := "(III)I" } : Jvm.MethodName)) ∈ wt_ := wt_in (i := 1219) (by decide +kernel) rfl
theorem m_1220 : (Jvm.Cond.code ({ cls := "SlitDrum$Course", name := "partsShowing", desc := "(III)I" } : Jvm.MethodName) prog_2_method_9_code (4 : Nat) (Option.some Jvm.ClassFile.FieldType.int)) ∈ wt_ := wt_in (i := 1220) (by decide +kernel) rfl
theorem m_1221 : (Jvm.Cond.constantLong "SlitDrum$Course" (95 : Nat) (1000000000 : Int64)) ∈ wt_ := wt_in (i := 1221) (by decide +kernel) rfl
theorem m_1222 : (Jvm.Cond.methodLink "SlitDrum$Course" (97 : Nat) ({ cls := "java/lang/Math", name := "min", desc := "(II)I" } : Jvm.MethodName)) ∈ wt_ := wt_in (i := 1222) (by decide +kernel) rfl
theorem m_1223 : (Jvm.Cond.methodLink "SlitDrum$Course" (102 : Nat) ({ cls := "SlitDrum$Course", name := "showingOf", desc := "(JIIIII)J" } : Jvm.MethodName)) ∈ wt_ := wt_in (i := 1223) (by decide +kernel) rfl
theorem m_1225 : (Jvm.Cond.instanceMethod ({ cls := "SlitDrum$Course", name := "showingOf", desc := "(JIIIII)J" } : Jvm.MethodName)) ∈ wt_ := wt_in (i := 1225) (by decide +kernel) rfl
theorem m_1226 : (Jvm.Cond.code ({ cls := "SlitDrum$Course", name := "showingOf", desc := "(JIIIII)J" } : Jvm.MethodName) prog_2_method_10_code (11 : Nat) (Option.some Jvm.ClassFile.FieldType.long)) ∈ wt_ := wt_in (i := 1226) (by decide +kernel) rfl
theorem m_1227 : (Jvm.Cond.constantLong "SlitDrum$Course" (106 : Nat) (100 : Int64)) ∈ wt_ := wt_in (i := 1227) (by decide +kernel) rfl
theorem m_1228 : (Jvm.Cond.methodLink "SlitDrumLaw" (193 : Nat) ({ cls := "SlitDrum", name := "shares", desc := "(II)I" } : Jvm.MethodName)) ∈ wt_ := wt_in (i := 1228) (by decide +kernel) rfl
theorem m_1229 : (Jvm.Cond.instanceMethod ({ cls := "SlitDrum", name := "shares", desc := "(II)I" } : Jvm.MethodName)) ∈ wt_ := wt_in (i := 1229) (by decide +kernel) rfl
theorem m_1230 : (Jvm.Cond.selects "SlitDrum" ({ cls := "SlitDrum", name := "shares", desc := "(II)I" } : Jvm.MethodName) ({ cls := "SlitDrum", name := "shares", desc := "(II)I" } : Jvm.MethodName)) ∈ wt_ := wt_in (i := 1230) (by decide +kernel) rfl
theorem m_1231 : (Jvm.Cond.code ({ cls := "SlitDrum", name := "shares", desc := "(II)I" } : Jvm.MethodName) prog_1_method_73_code (5 : Nat) (Option.some Jvm.ClassFile.FieldType.int)) ∈ wt_ := wt_in (i := 1231) (by decide +kernel) rfl
theorem m_1232 : (Jvm.Cond.methodLink "SlitDrumLaw" (197 : Nat) ({ cls := "SlitDrum", name := "most", desc := "(I)I" } : Jvm.MethodName)) ∈ wt_ := wt_in (i := 1232) (by decide +kernel) rfl
theorem m_1233 : (Jvm.Cond.instanceMethod ({ cls := "SlitDrum", name := "most", desc := "(I)I" } : Jvm.MethodName)) ∈ wt_ := wt_in (i := 1233) (by decide +kernel) rfl
theorem m_1234 : (Jvm.Cond.selects "SlitDrum" ({ cls := "SlitDrum", name := "most", desc := "(I)I" } : Jvm.MethodName) ({ cls := "SlitDrum", name := "most", desc := "(I)I" } : Jvm.MethodName)) ∈ wt_ := wt_in (i := 1234) (by decide +kernel) rfl
theorem m_1235 : (Jvm.Cond.code ({ cls := "SlitDrum", name := "most", desc := "(I)I" } : Jvm.MethodName) prog_1_method_74_code (2 : Nat) (Option.some Jvm.ClassFile.FieldType.int)) ∈ wt_ := wt_in (i := 1235) (by decide +kernel) rfl
theorem m_1236 : (Jvm.Cond.methodLink "SlitDrum" (385 : Nat) ({ cls := "SlitDrum", name := "fastest", desc := "()I" } : Jvm.MethodName)) ∈ wt_ := wt_in (i := 1236) (by decide +kernel) rfl
theorem m_1238 : (Jvm.Cond.instanceMethod ({ cls := "SlitDrum", name := "fastest", desc := "()I" } : Jvm.MethodName)) ∈ wt_ := wt_in (i := 1238) (by decide +kernel) rfl
theorem m_1239 : (Jvm.Cond.code ({ cls := "SlitDrum", name := "fastest", desc := "()I" } : Jvm.MethodName) prog_1_method_75_code (3 : Nat) (Option.some Jvm.ClassFile.FieldType.int)) ∈ wt_ := wt_in (i := 1239) (by decide +kernel) rfl
theorem m_1240 : (Jvm.Cond.methodLink "SlitDrum" (388 : Nat) ({ cls := "SlitDrum", name := "longest", desc := "()I" } : Jvm.MethodName)) ∈ wt_ := wt_in (i := 1240) (by decide +kernel) rfl
theorem m_1242 : (Jvm.Cond.instanceMethod ({ cls := "SlitDrum", name := "longest", desc := "()I" } : Jvm.MethodName)) ∈ wt_ := wt_in (i := 1242) (by decide +kernel) rfl
theorem m_1243 : (Jvm.Cond.code ({ cls := "SlitDrum", name := "longest", desc := "()I" } : Jvm.MethodName) prog_1_method_76_code (3 : Nat) (Option.some Jvm.ClassFile.FieldType.int)) ∈ wt_ := wt_in (i := 1243) (by decide +kernel) rfl
theorem m_1244 : (Jvm.Cond.methodLink "SlitDrum" (391 : Nat) ({ cls := "SlitDrum", name := "commonest", desc := "()I" } : Jvm.MethodName)) ∈ wt_ := wt_in (i := 1244) (by decide +kernel) rfl
theorem m_1246 : (Jvm.Cond.instanceMethod ({ cls := "SlitDrum", name := "commonest", desc := "()I" } : Jvm.MethodName)) ∈ wt_ := wt_in (i := 1246) (by decide +kernel) rfl
theorem m_1247 : (Jvm.Cond.code ({ cls := "SlitDrum", name := "commonest", desc := "()I" } : Jvm.MethodName) prog_1_method_77_code (6 : Nat) (Option.some Jvm.ClassFile.FieldType.int)) ∈ wt_ := wt_in (i := 1247) (by decide +kernel) rfl
theorem m_1248 : (Jvm.Cond.methodLink "SlitDrum" (412 : Nat) ({ cls := "SlitDrum$Strip", name := "has", desc := "(I)Z" } : Jvm.MethodName)) ∈ wt_ := wt_in (i := 1248) (by decide +kernel) rfl
theorem m_1249 : (Jvm.Cond.instanceMethod ({ cls := "SlitDrum$Strip", name := "has", desc := "(I)Z" } : Jvm.MethodName)) ∈ wt_ := wt_in (i := 1249) (by decide +kernel) rfl
theorem m_1250 : (Jvm.Cond.selects "SlitDrum$Strip" ({ cls := "SlitDrum$Strip", name := "has", desc := "(I)Z" } : Jvm.MethodName) ({ cls := "SlitDrum$Strip", name := "has", desc := "(I)Z" } : Jvm.MethodName)) ∈ wt_ := wt_in (i := 1250) (by decide +kernel) rfl
theorem m_1251 : (Jvm.Cond.code ({ cls := "SlitDrum$Strip", name := "has", desc := "(I)Z" } : Jvm.MethodName) prog_10_method_4_code (7 : Nat) (Option.some Jvm.ClassFile.FieldType.boolean)) ∈ wt_ := wt_in (i := 1251) (by decide +kernel) rfl
theorem m_1252 : (Jvm.Cond.methodLink "SlitDrum" (394 : Nat) ({ cls := "SlitDrum", name := "shownNow", desc := "()I" } : Jvm.MethodName)) ∈ wt_ := wt_in (i := 1252) (by decide +kernel) rfl
theorem m_1254 : (Jvm.Cond.instanceMethod ({ cls := "SlitDrum", name := "shownNow", desc := "()I" } : Jvm.MethodName)) ∈ wt_ := wt_in (i := 1254) (by decide +kernel) rfl
theorem m_1255 : (Jvm.Cond.code ({ cls := "SlitDrum", name := "shownNow", desc := "()I" } : Jvm.MethodName) prog_1_method_78_code (3 : Nat) (Option.some Jvm.ClassFile.FieldType.int)) ∈ wt_ := wt_in (i := 1255) (by decide +kernel) rfl
theorem m_1256 : (Jvm.Cond.methodLink "SlitDrum" (397 : Nat) ({ cls := "SlitDrum", name := "twins", desc := "()I" } : Jvm.MethodName)) ∈ wt_ := wt_in (i := 1256) (by decide +kernel) rfl
theorem m_1258 : (Jvm.Cond.instanceMethod ({ cls := "SlitDrum", name := "twins", desc := "()I" } : Jvm.MethodName)) ∈ wt_ := wt_in (i := 1258) (by decide +kernel) rfl
theorem m_1259 : (Jvm.Cond.code ({ cls := "SlitDrum", name := "twins", desc := "()I" } : Jvm.MethodName) prog_1_method_79_code (5 : Nat) (Option.some Jvm.ClassFile.FieldType.int)) ∈ wt_ := wt_in (i := 1259) (by decide +kernel) rfl
theorem m_1260 : (Jvm.Cond.methodLink "SlitDrum" (400 : Nat) ({ cls := "SlitDrum", name := "turningBack", desc := "()I" } : Jvm.MethodName)) ∈ wt_ := wt_in (i := 1260) (by decide +kernel) rfl
theorem m_1262 : (Jvm.Cond.instanceMethod ({ cls := "SlitDrum", name := "turningBack", desc := "()I" } : Jvm.MethodName)) ∈ wt_ := wt_in (i := 1262) (by decide +kernel) rfl
theorem m_1263 : (Jvm.Cond.code ({ cls := "SlitDrum", name := "turningBack", desc := "()I" } : Jvm.MethodName) prog_1_method_80_code (3 : Nat) (Option.some Jvm.ClassFile.FieldType.int)) ∈ wt_ := wt_in (i := 1263) (by decide +kernel) rfl
theorem m_1264 : (Jvm.Cond.methodLink "SlitDrum" (403 : Nat) ({ cls := "SlitDrum", name := "bareNow", desc := "()I" } : Jvm.MethodName)) ∈ wt_ := wt_in (i := 1264) (by decide +kernel) rfl
theorem m_1266 : (Jvm.Cond.instanceMethod ({ cls := "SlitDrum", name := "bareNow", desc := "()I" } : Jvm.MethodName)) ∈ wt_ := wt_in (i := 1266) (by decide +kernel) rfl
theorem m_1267 : (Jvm.Cond.code ({ cls := "SlitDrum", name := "bareNow", desc := "()I" } : Jvm.MethodName) prog_1_method_81_code (3 : Nat) (Option.some Jvm.ClassFile.FieldType.int)) ∈ wt_ := wt_in (i := 1267) (by decide +kernel) rfl
theorem m_1268 : (Jvm.Cond.methodLink "SlitDrum" (406 : Nat) ({ cls := "SlitDrum", name := "still", desc := "()I" } : Jvm.MethodName)) ∈ wt_ := wt_in (i := 1268) (by decide +kernel) rfl
theorem m_1270 : (Jvm.Cond.instanceMethod ({ cls := "SlitDrum", name := "still", desc := "()I" } : Jvm.MethodName)) ∈ wt_ := wt_in (i := 1270) (by decide +kernel) rfl
theorem m_1271 : (Jvm.Cond.code ({ cls := "SlitDrum", name := "still", desc := "()I" } : Jvm.MethodName) prog_1_method_82_code (3 : Nat) (Option.some Jvm.ClassFile.FieldType.int)) ∈ wt_ := wt_in (i := 1271) (by decide +kernel) rfl
theorem m_1272 : (Jvm.Cond.methodLink "SlitDrum" (409 : Nat) ({ cls := "SlitDrum", name := "byPlace", desc := "()I" } : Jvm.MethodName)) ∈ wt_ := wt_in (i := 1272) (by decide +kernel) rfl
theorem m_1274 : (Jvm.Cond.instanceMethod ({ cls := "SlitDrum", name := "byPlace", desc := "()I" } : Jvm.MethodName)) ∈ wt_ := wt_in (i := 1274) (by decide +kernel) rfl
theorem m_1275 : (Jvm.Cond.code ({ cls := "SlitDrum", name := "byPlace", desc := "()I" } : Jvm.MethodName) prog_1_method_83_code (7 : Nat) (Option.some Jvm.ClassFile.FieldType.int)) ∈ wt_ := wt_in (i := 1275) (by decide +kernel) rfl
theorem m_1276 : (Jvm.Cond.methodLink "SlitDrumLaw" (201 : Nat) ({ cls := "SlitDrum", name := "image", desc := "()I" } : Jvm.MethodName)) ∈ wt_ := wt_in (i := 1276) (by decide +kernel) rfl
theorem m_1277 : (Jvm.Cond.instanceMethod ({ cls := "SlitDrum", name := "image", desc := "()I" } : Jvm.MethodName)) ∈ wt_ := wt_in (i := 1277) (by decide +kernel) rfl
theorem m_1278 : (Jvm.Cond.selects "SlitDrum" ({ cls := "SlitDrum", name := "image", desc := "()I" } : Jvm.MethodName) ({ cls := "SlitDrum", name := "image", desc := "()I" } : Jvm.MethodName)) ∈ wt_ := wt_in (i := 1278) (by decide +kernel) rfl
theorem m_1279 : (Jvm.Cond.code ({ cls := "SlitDrum", name := "image", desc := "()I" } : Jvm.MethodName) prog_1_method_84_code (1 : Nat) (Option.some Jvm.ClassFile.FieldType.int)) ∈ wt_ := wt_in (i := 1279) (by decide +kernel) rfl
theorem m_1280 : (Jvm.Cond.methodLink "SlitDrum" (415 : Nat) ({ cls := "SlitDrum$Scene", name := "copyFrom", desc := "(LSlitDrum$Scene;)V" } : Jvm.MethodName)) ∈ wt_ := wt_in (i := 1280) (by decide +kernel) rfl
theorem m_1281 : (Jvm.Cond.methodLink "SlitDrumLaw" (205 : Nat) ({ cls := "SlitDrum", name := "back", desc := "()I" } : Jvm.MethodName)) ∈ wt_ := wt_in (i := 1281) (by decide +kernel) rfl
theorem m_1282 : (Jvm.Cond.instanceMethod ({ cls := "SlitDrum", name := "back", desc := "()I" } : Jvm.MethodName)) ∈ wt_ := wt_in (i := 1282) (by decide +kernel) rfl
theorem m_1283 : (Jvm.Cond.selects "SlitDrum" ({ cls := "SlitDrum", name := "back", desc := "()I" } : Jvm.MethodName) ({ cls := "SlitDrum", name := "back", desc := "()I" } : Jvm.MethodName)) ∈ wt_ := wt_in (i := 1283) (by decide +kernel) rfl
theorem m_1284 : (Jvm.Cond.code ({ cls := "SlitDrum", name := "back", desc := "()I" } : Jvm.MethodName) prog_1_method_85_code (1 : Nat) (Option.some Jvm.ClassFile.FieldType.int)) ∈ wt_ := wt_in (i := 1284) (by decide +kernel) rfl
theorem m_1285 : (Jvm.Cond.methodLink "SlitDrumLaw" (209 : Nat) ({ cls := "SlitDrum", name := "count", desc := "(I)I" } : Jvm.MethodName)) ∈ wt_ := wt_in (i := 1285) (by decide +kernel) rfl
theorem m_1286 : (Jvm.Cond.instanceMethod ({ cls := "SlitDrum", name := "count", desc := "(I)I" } : Jvm.MethodName)) ∈ wt_ := wt_in (i := 1286) (by decide +kernel) rfl
theorem m_1287 : (Jvm.Cond.selects "SlitDrum" ({ cls := "SlitDrum", name := "count", desc := "(I)I" } : Jvm.MethodName) ({ cls := "SlitDrum", name := "count", desc := "(I)I" } : Jvm.MethodName)) ∈ wt_ := wt_in (i := 1287) (by decide +kernel) rfl
theorem m_1288 : (Jvm.Cond.code ({ cls := "SlitDrum", name := "count", desc := "(I)I" } : Jvm.MethodName) prog_1_method_86_code (2 : Nat) (Option.some Jvm.ClassFile.FieldType.int)) ∈ wt_ := wt_in (i := 1288) (by decide +kernel) rfl
theorem m_1289 : (Jvm.Cond.methodLink "SlitDrumLaw" (42 : Nat) ({ cls := "SlitDrumLaw", name := "wheel", desc := "(LSlitDrum;II[J)I" } : Jvm.MethodName)) ∈ wt_ := wt_in (i := 1289) (by decide +kernel) rfl
theorem m_1292 : (Jvm.Cond.classLink "SlitDrumLaw" (13 : Nat) "java/util/NoSuchElementException") ∈ wt_ := wt_in (i := 1292) (by decide +kernel) rfl
theorem m_1293 : (Jvm.Cond.methodLink "SlitDrumLaw" (7 : Nat) ({ cls := "SlitDrum", name := "wheel", desc := "(II)I" } : Jvm.MethodName)) ∈ wt_ := wt_in (i := 1293) (by decide +kernel) rfl
theorem m_1294 : (Jvm.Cond.instanceMethod ({ cls := "SlitDrum", name := "wheel", desc := "(II)I" } : Jvm.MethodName)) ∈ wt_ := wt_in (i := 1294) (by decide +kernel) rfl
theorem m_1295 : (Jvm.Cond.selects "SlitDrum" ({ cls := "SlitDrum", name := "wheel", desc := "(II)I" } : Jvm.MethodName) ({ cls := "SlitDrum", name := "wheel", desc := "(II)I" } : Jvm.MethodName)) ∈ wt_ := wt_in (i := 1295) (by decide +kernel) rfl
theorem m_1296 : (Jvm.Cond.code ({ cls := "SlitDrum", name := "wheel", desc := "(II)I" } : Jvm.MethodName) prog_1_method_13_code (4 : Nat) (Option.some Jvm.ClassFile.FieldType.int)) ∈ wt_ := wt_in (i := 1296) (by decide +kernel) rfl
theorem m_1297 : (Jvm.Cond.classLink "SlitDrum" (199 : Nat) "java/util/NoSuchElementException") ∈ wt_ := wt_in (i := 1297) (by decide +kernel) rfl
theorem m_1306 : (Jvm.Cond.selects "java/util/NoSuchElementException" ({ cls := "java/lang/Throwable", name := "fillInStackTrace", desc := "(I)Ljava/lang/Throwable;" } : Jvm.MethodName) ({ cls := "java/lang/Throwable", name := "fillInStackTrace", desc := "(I)Ljava/lang/Throwable;" } : Jvm.MethodName)) ∈ wt_ := wt_in (i := 1306) (by decide +kernel) rfl
theorem m_1307 : (Jvm.Cond.selects "java/util/NoSuchElementException" ({ cls := "java/lang/Throwable", name := "fillInStackTrace", desc := "()Ljava/lang/Throwable;" } : Jvm.MethodName) ({ cls := "java/lang/Throwable", name := "fillInStackTrace", desc := "()Ljava/lang/Throwable;" } : Jvm.MethodName)) ∈ wt_ := wt_in (i := 1307) (by decide +kernel) rfl
theorem m_1329 : (Jvm.Cond.sameMethod "java/lang/Throwable" "java/lang/Throwable" "fillInStackTrace" "()Ljava/lang/Throwable;") ∈ wt_ := wt_in (i := 1329) (by decide +kernel) rfl
theorem m_1337 : (Jvm.Cond.methodLink "SlitDrum" (203 : Nat) ({ cls := "java/util/NoSuchElementException", name := "<init>", desc := "(Ljava/lang/String;)V" } : Jvm.MethodName)) ∈ wt_ := wt_in (i := 1337) (by decide +kernel) rfl
theorem m_1363 : (Jvm.Cond.classLink "SlitDrumLaw" (16 : Nat) "SlitDrumModel") ∈ wt_ := wt_in (i := 1363) (by decide +kernel) rfl
theorem m_1364 : (Jvm.Cond.instantiable "SlitDrumModel" (41 : Nat)) ∈ wt_ := wt_in (i := 1364) (by decide +kernel) rfl
theorem m_1365 : (Jvm.Cond.methodLink "SlitDrumLaw" (18 : Nat) ({ cls := "SlitDrumModel", name := "<init>", desc := "()V" } : Jvm.MethodName)) ∈ wt_ := wt_in (i := 1365) (by decide +kernel) rfl
theorem m_1366 : (Jvm.Cond.instanceMethod ({ cls := "SlitDrumModel", name := "<init>", desc := "()V" } : Jvm.MethodName)) ∈ wt_ := wt_in (i := 1366) (by decide +kernel) rfl
theorem m_1367 : (Jvm.Cond.code ({ cls := "SlitDrumModel", name := "<init>", desc := "()V" } : Jvm.MethodName) prog_14_method_4_code (1 : Nat) (Option.none : Option Jvm.ClassFile.FieldType)) ∈ wt_ := wt_in (i := 1367) (by decide +kernel) rfl
theorem m_1368 : (Jvm.Cond.methodLink "SlitDrumModel" (3 : Nat) ({ cls := "java/lang/Object", name := "<init>", desc := "()V" } : Jvm.MethodName)) ∈ wt_ := wt_in (i := 1368) (by decide +kernel) rfl
theorem m_1369 : (Jvm.Cond.fieldLink "SlitDrumModel" (93 : Nat) "SlitDrumModel" "thrown" "I") ∈ wt_ := wt_in (i := 1369) (by decide +kernel) rfl
theorem m_1370 : (Jvm.Cond.fieldLink "SlitDrumModel" (9 : Nat) "SlitDrumModel" "tape" "[I") ∈ wt_ := wt_in (i := 1370) (by decide +kernel) rfl
theorem m_1371 : (Jvm.Cond.fieldLink "SlitDrumModel" (100 : Nat) "SlitDrumModel" "size" "I") ∈ wt_ := wt_in (i := 1371) (by decide +kernel) rfl
theorem m_1372 : (Jvm.Cond.fieldLink "SlitDrumModel" (103 : Nat) "SlitDrumModel" "mark" "I") ∈ wt_ := wt_in (i := 1372) (by decide +kernel) rfl
theorem m_1373 : (Jvm.Cond.fieldLink "SlitDrumModel" (110 : Nat) "SlitDrumModel" "wrong" "I") ∈ wt_ := wt_in (i := 1373) (by decide +kernel) rfl
theorem m_1374 : (Jvm.Cond.fieldLink "SlitDrumModel" (116 : Nat) "SlitDrumModel" "deep" "I") ∈ wt_ := wt_in (i := 1374) (by decide +kernel) rfl
theorem m_1375 : (Jvm.Cond.fieldLink "SlitDrumModel" (13 : Nat) "SlitDrumModel" "code" "[I") ∈ wt_ := wt_in (i := 1375) (by decide +kernel) rfl
theorem m_1376 : (Jvm.Cond.fieldLink "SlitDrumModel" (16 : Nat) "SlitDrumModel" "value" "[I") ∈ wt_ := wt_in (i := 1376) (by decide +kernel) rfl
theorem m_1377 : (Jvm.Cond.fieldLink "SlitDrumModel" (19 : Nat) "SlitDrumModel" "codes" "[I") ∈ wt_ := wt_in (i := 1377) (by decide +kernel) rfl
theorem m_1378 : (Jvm.Cond.fieldLink "SlitDrumModel" (22 : Nat) "SlitDrumModel" "clauses" "[I") ∈ wt_ := wt_in (i := 1378) (by decide +kernel) rfl
theorem m_1379 : (Jvm.Cond.fieldLink "SlitDrumModel" (25 : Nat) "SlitDrumModel" "testFrom" "[I") ∈ wt_ := wt_in (i := 1379) (by decide +kernel) rfl
theorem m_1380 : (Jvm.Cond.fieldLink "SlitDrumModel" (28 : Nat) "SlitDrumModel" "sumFrom" "[I") ∈ wt_ := wt_in (i := 1380) (by decide +kernel) rfl
theorem m_1381 : (Jvm.Cond.fieldLink "SlitDrumModel" (31 : Nat) "SlitDrumModel" "sumTo" "[I") ∈ wt_ := wt_in (i := 1381) (by decide +kernel) rfl
theorem m_1382 : (Jvm.Cond.fieldLink "SlitDrumModel" (282 : Nat) "SlitDrumModel" "laws" "I") ∈ wt_ := wt_in (i := 1382) (by decide +kernel) rfl
theorem m_1383 : (Jvm.Cond.fieldLink "SlitDrumModel" (113 : Nat) "SlitDrumModel" "text" "I") ∈ wt_ := wt_in (i := 1383) (by decide +kernel) rfl
theorem m_1384 : (Jvm.Cond.fieldLink "SlitDrumModel" (34 : Nat) "SlitDrumModel" "letters" "[I") ∈ wt_ := wt_in (i := 1384) (by decide +kernel) rfl
theorem m_1385 : (Jvm.Cond.fieldLink "SlitDrumModel" (37 : Nat) "SlitDrumModel" "stack" "[I") ∈ wt_ := wt_in (i := 1385) (by decide +kernel) rfl
theorem m_1386 : (Jvm.Cond.fieldLink "SlitDrumModel" (40 : Nat) "SlitDrumModel" "readRule" "[I") ∈ wt_ := wt_in (i := 1386) (by decide +kernel) rfl
theorem m_1387 : (Jvm.Cond.fieldLink "SlitDrumModel" (43 : Nat) "SlitDrumModel" "readWheel" "[I") ∈ wt_ := wt_in (i := 1387) (by decide +kernel) rfl
theorem m_1388 : (Jvm.Cond.fieldLink "SlitDrumModel" (229 : Nat) "SlitDrumModel" "readWheels" "I") ∈ wt_ := wt_in (i := 1388) (by decide +kernel) rfl
theorem m_1389 : (Jvm.Cond.fieldLink "SlitDrumModel" (263 : Nat) "SlitDrumModel" "wheels" "I") ∈ wt_ := wt_in (i := 1389) (by decide +kernel) rfl
theorem m_1390 : (Jvm.Cond.fieldLink "SlitDrumModel" (46 : Nat) "SlitDrumModel" "strip" "[I") ∈ wt_ := wt_in (i := 1390) (by decide +kernel) rfl
theorem m_1391 : (Jvm.Cond.fieldLink "SlitDrumModel" (49 : Nat) "SlitDrumModel" "stripLong" "[I") ∈ wt_ := wt_in (i := 1391) (by decide +kernel) rfl
theorem m_1392 : (Jvm.Cond.fieldLink "SlitDrumModel" (251 : Nat) "SlitDrumModel" "strips" "I") ∈ wt_ := wt_in (i := 1392) (by decide +kernel) rfl
theorem m_1393 : (Jvm.Cond.fieldLink "SlitDrumModel" (52 : Nat) "SlitDrumModel" "now" "[I") ∈ wt_ := wt_in (i := 1393) (by decide +kernel) rfl
theorem m_1394 : (Jvm.Cond.fieldLink "SlitDrumModel" (55 : Nat) "SlitDrumModel" "refused" "[I") ∈ wt_ := wt_in (i := 1394) (by decide +kernel) rfl
theorem m_1395 : (Jvm.Cond.fieldLink "SlitDrumModel" (58 : Nat) "SlitDrumModel" "holding" "I") ∈ wt_ := wt_in (i := 1395) (by decide +kernel) rfl
theorem m_1396 : (Jvm.Cond.fieldLink "SlitDrumModel" (62 : Nat) "SlitDrumModel" "touching" "I") ∈ wt_ := wt_in (i := 1396) (by decide +kernel) rfl
theorem m_1397 : (Jvm.Cond.fieldLink "SlitDrumModel" (65 : Nat) "SlitDrumModel" "kept" "[I") ∈ wt_ := wt_in (i := 1397) (by decide +kernel) rfl
theorem m_1398 : (Jvm.Cond.fieldLink "SlitDrumModel" (272 : Nat) "SlitDrumModel" "acts" "I") ∈ wt_ := wt_in (i := 1398) (by decide +kernel) rfl
theorem m_1399 : (Jvm.Cond.fieldLink "SlitDrumModel" (328 : Nat) "SlitDrumModel" "draws" "J") ∈ wt_ := wt_in (i := 1399) (by decide +kernel) rfl
theorem m_1400 : (Jvm.Cond.fieldLink "SlitDrumModel" (68 : Nat) "SlitDrumModel" "trail" "[I") ∈ wt_ := wt_in (i := 1400) (by decide +kernel) rfl
theorem m_1401 : (Jvm.Cond.fieldLink "SlitDrumModel" (71 : Nat) "SlitDrumModel" "standing" "[I") ∈ wt_ := wt_in (i := 1401) (by decide +kernel) rfl
theorem m_1402 : (Jvm.Cond.fieldLink "SlitDrumModel" (74 : Nat) "SlitDrumModel" "spots" "[I") ∈ wt_ := wt_in (i := 1402) (by decide +kernel) rfl
theorem m_1403 : (Jvm.Cond.fieldLink "SlitDrumModel" (77 : Nat) "SlitDrumModel" "noteTick" "[I") ∈ wt_ := wt_in (i := 1403) (by decide +kernel) rfl
theorem m_1404 : (Jvm.Cond.fieldLink "SlitDrumModel" (80 : Nat) "SlitDrumModel" "notePicture" "[I") ∈ wt_ := wt_in (i := 1404) (by decide +kernel) rfl
theorem m_1405 : (Jvm.Cond.fieldLink "SlitDrumModel" (83 : Nat) "SlitDrumModel" "noteIs" "[Z") ∈ wt_ := wt_in (i := 1405) (by decide +kernel) rfl
theorem m_1406 : (Jvm.Cond.fieldLink "SlitDrumModel" (269 : Nat) "SlitDrumModel" "noteMany" "I") ∈ wt_ := wt_in (i := 1406) (by decide +kernel) rfl
theorem m_1407 : (Jvm.Cond.fieldLink "SlitDrumModel" (87 : Nat) "SlitDrumModel" "telling" "[I") ∈ wt_ := wt_in (i := 1407) (by decide +kernel) rfl
theorem m_1408 : (Jvm.Cond.fieldLink "SlitDrumModel" (90 : Nat) "SlitDrumModel" "image" "[I") ∈ wt_ := wt_in (i := 1408) (by decide +kernel) rfl
theorem m_1409 : (Jvm.Cond.fieldLink "SlitDrumModel" (275 : Nat) "SlitDrumModel" "hasImage" "Z") ∈ wt_ := wt_in (i := 1409) (by decide +kernel) rfl
theorem m_1493 : (Jvm.Cond.methodLink "SlitDrumLaw" (48 : Nat) ({ cls := "SlitDrumModel", name := "thrown", desc := "()I" } : Jvm.MethodName)) ∈ wt_ := wt_in (i := 1493) (by decide +kernel) rfl
theorem m_1494 : (Jvm.Cond.instanceMethod ({ cls := "SlitDrumModel", name := "thrown", desc := "()I" } : Jvm.MethodName)) ∈ wt_ := wt_in (i := 1494) (by decide +kernel) rfl
theorem m_1495 : (Jvm.Cond.selects "SlitDrumModel" ({ cls := "SlitDrumModel", name := "thrown", desc := "()I" } : Jvm.MethodName) ({ cls := "SlitDrumModel", name := "thrown", desc := "()I" } : Jvm.MethodName)) ∈ wt_ := wt_in (i := 1495) (by decide +kernel) rfl
theorem m_1496 : (Jvm.Cond.code ({ cls := "SlitDrumModel", name := "thrown", desc := "()I" } : Jvm.MethodName) prog_14_method_5_code (1 : Nat) (Option.some Jvm.ClassFile.FieldType.int)) ∈ wt_ := wt_in (i := 1496) (by decide +kernel) rfl
theorem m_1497 : (Jvm.Cond.methodLink "SlitDrumLaw" (23 : Nat) ({ cls := "SlitDrumModel", name := "feed", desc := "(IIIII)I" } : Jvm.MethodName)) ∈ wt_ := wt_in (i := 1497) (by decide +kernel) rfl
theorem m_1498 : (Jvm.Cond.instanceMethod ({ cls := "SlitDrumModel", name := "feed", desc := "(IIIII)I" } : Jvm.MethodName)) ∈ wt_ := wt_in (i := 1498) (by decide +kernel) rfl
theorem m_1499 : (Jvm.Cond.selects "SlitDrumModel" ({ cls := "SlitDrumModel", name := "feed", desc := "(IIIII)I" } : Jvm.MethodName) ({ cls := "SlitDrumModel", name := "feed", desc := "(IIIII)I" } : Jvm.MethodName)) ∈ wt_ := wt_in (i := 1499) (by decide +kernel) rfl
theorem m_1500 : (Jvm.Cond.code ({ cls := "SlitDrumModel", name := "feed", desc := "(IIIII)I" } : Jvm.MethodName) prog_14_method_7_code (9 : Nat) (Option.some Jvm.ClassFile.FieldType.int)) ∈ wt_ := wt_in (i := 1500) (by decide +kernel) rfl
theorem m_1501 : (Jvm.Cond.methodLink "SlitDrumModel" (96 : Nat) ({ cls := "SlitDrumModel", name := "byteOf", desc := "(IIIIII)I" } : Jvm.MethodName)) ∈ wt_ := wt_in (i := 1501) (by decide +kernel) rfl
theorem m_1502 : (Jvm.Cond.static ({ cls := "SlitDrumModel", name := "byteOf", desc := "(IIIIII)I" } : Jvm.MethodName)) ∈ wt_ := wt_in (i := 1502) (by decide +kernel) rfl
theorem m_1503 : (Jvm.Cond.code ({ cls := "SlitDrumModel", name := "byteOf", desc := "(IIIIII)I" } : Jvm.MethodName) prog_14_method_6_code (7 : Nat) (Option.some Jvm.ClassFile.FieldType.int)) ∈ wt_ := wt_in (i := 1503) (by decide +kernel) rfl
theorem m_1504 : (Jvm.Cond.methodLink "SlitDrumLaw" (28 : Nat) ({ cls := "SlitDrumModel", name := "end", desc := "(I)Z" } : Jvm.MethodName)) ∈ wt_ := wt_in (i := 1504) (by decide +kernel) rfl
theorem m_1505 : (Jvm.Cond.instanceMethod ({ cls := "SlitDrumModel", name := "end", desc := "(I)Z" } : Jvm.MethodName)) ∈ wt_ := wt_in (i := 1505) (by decide +kernel) rfl
theorem m_1506 : (Jvm.Cond.selects "SlitDrumModel" ({ cls := "SlitDrumModel", name := "end", desc := "(I)Z" } : Jvm.MethodName) ({ cls := "SlitDrumModel", name := "end", desc := "(I)Z" } : Jvm.MethodName)) ∈ wt_ := wt_in (i := 1506) (by decide +kernel) rfl
theorem m_1507 : (Jvm.Cond.code ({ cls := "SlitDrumModel", name := "end", desc := "(I)Z" } : Jvm.MethodName) prog_14_method_8_code (2 : Nat) (Option.some Jvm.ClassFile.FieldType.boolean)) ∈ wt_ := wt_in (i := 1507) (by decide +kernel) rfl
theorem m_1508 : (Jvm.Cond.methodLink "SlitDrumLaw" (33 : Nat) ({ cls := "SlitDrumModel", name := "fault", desc := "(I)I" } : Jvm.MethodName)) ∈ wt_ := wt_in (i := 1508) (by decide +kernel) rfl
theorem m_1509 : (Jvm.Cond.instanceMethod ({ cls := "SlitDrumModel", name := "fault", desc := "(I)I" } : Jvm.MethodName)) ∈ wt_ := wt_in (i := 1509) (by decide +kernel) rfl
theorem m_1510 : (Jvm.Cond.selects "SlitDrumModel" ({ cls := "SlitDrumModel", name := "fault", desc := "(I)I" } : Jvm.MethodName) ({ cls := "SlitDrumModel", name := "fault", desc := "(I)I" } : Jvm.MethodName)) ∈ wt_ := wt_in (i := 1510) (by decide +kernel) rfl
theorem m_1511 : (Jvm.Cond.code ({ cls := "SlitDrumModel", name := "fault", desc := "(I)I" } : Jvm.MethodName) prog_14_method_44_code (2 : Nat) (Option.some Jvm.ClassFile.FieldType.int)) ∈ wt_ := wt_in (i := 1511) (by decide +kernel) rfl
theorem m_1512 : (Jvm.Cond.methodLink "SlitDrumModel" (242 : Nat) ({ cls := "SlitDrumModel", name := "readLantern", desc := "()I" } : Jvm.MethodName)) ∈ wt_ := wt_in (i := 1512) (by decide +kernel) rfl
theorem m_1514 : (Jvm.Cond.instanceMethod ({ cls := "SlitDrumModel", name := "readLantern", desc := "()I" } : Jvm.MethodName)) ∈ wt_ := wt_in (i := 1514) (by decide +kernel) rfl
theorem m_1515 : (Jvm.Cond.code ({ cls := "SlitDrumModel", name := "readLantern", desc := "()I" } : Jvm.MethodName) prog_14_method_40_code (4 : Nat) (Option.some Jvm.ClassFile.FieldType.int)) ∈ wt_ := wt_in (i := 1515) (by decide +kernel) rfl
theorem m_1516 : (Jvm.Cond.methodLink "SlitDrumModel" (212 : Nat) ({ cls := "SlitDrumModel", name := "usual", desc := "(II)I" } : Jvm.MethodName)) ∈ wt_ := wt_in (i := 1516) (by decide +kernel) rfl
theorem m_1517 : (Jvm.Cond.static ({ cls := "SlitDrumModel", name := "usual", desc := "(II)I" } : Jvm.MethodName)) ∈ wt_ := wt_in (i := 1517) (by decide +kernel) rfl
theorem m_1518 : (Jvm.Cond.code ({ cls := "SlitDrumModel", name := "usual", desc := "(II)I" } : Jvm.MethodName) prog_14_method_38_code (2 : Nat) (Option.some Jvm.ClassFile.FieldType.int)) ∈ wt_ := wt_in (i := 1518) (by decide +kernel) rfl
theorem m_1519 : (Jvm.Cond.methodLink "SlitDrumModel" (122 : Nat) ({ cls := "SlitDrumModel", name := "look", desc := "()I" } : Jvm.MethodName)) ∈ wt_ := wt_in (i := 1519) (by decide +kernel) rfl
theorem m_1521 : (Jvm.Cond.instanceMethod ({ cls := "SlitDrumModel", name := "look", desc := "()I" } : Jvm.MethodName)) ∈ wt_ := wt_in (i := 1521) (by decide +kernel) rfl
theorem m_1522 : (Jvm.Cond.code ({ cls := "SlitDrumModel", name := "look", desc := "()I" } : Jvm.MethodName) prog_14_method_10_code (1 : Nat) (Option.some Jvm.ClassFile.FieldType.int)) ∈ wt_ := wt_in (i := 1522) (by decide +kernel) rfl
theorem m_1523 : (Jvm.Cond.methodLink "SlitDrumModel" (106 : Nat) ({ cls := "SlitDrumModel", name := "here", desc := "()I" } : Jvm.MethodName)) ∈ wt_ := wt_in (i := 1523) (by decide +kernel) rfl
theorem m_1525 : (Jvm.Cond.instanceMethod ({ cls := "SlitDrumModel", name := "here", desc := "()I" } : Jvm.MethodName)) ∈ wt_ := wt_in (i := 1525) (by decide +kernel) rfl
theorem m_1526 : (Jvm.Cond.code ({ cls := "SlitDrumModel", name := "here", desc := "()I" } : Jvm.MethodName) prog_14_method_9_code (1 : Nat) (Option.some Jvm.ClassFile.FieldType.int)) ∈ wt_ := wt_in (i := 1526) (by decide +kernel) rfl
theorem m_1527 : (Jvm.Cond.methodLink "SlitDrumModel" (232 : Nat) ({ cls := "SlitDrumModel", name := "items", desc := "(I[III)V" } : Jvm.MethodName)) ∈ wt_ := wt_in (i := 1527) (by decide +kernel) rfl
theorem m_1529 : (Jvm.Cond.instanceMethod ({ cls := "SlitDrumModel", name := "items", desc := "(I[III)V" } : Jvm.MethodName)) ∈ wt_ := wt_in (i := 1529) (by decide +kernel) rfl
theorem m_1530 : (Jvm.Cond.code ({ cls := "SlitDrumModel", name := "items", desc := "(I[III)V" } : Jvm.MethodName) prog_14_method_39_code (7 : Nat) (Option.none : Option Jvm.ClassFile.FieldType)) ∈ wt_ := wt_in (i := 1530) (by decide +kernel) rfl
theorem m_1531 : (Jvm.Cond.methodLink "SlitDrumModel" (216 : Nat) ({ cls := "SlitDrumModel", name := "itemOf", desc := "(II)I" } : Jvm.MethodName)) ∈ wt_ := wt_in (i := 1531) (by decide +kernel) rfl
theorem m_1532 : (Jvm.Cond.static ({ cls := "SlitDrumModel", name := "itemOf", desc := "(II)I" } : Jvm.MethodName)) ∈ wt_ := wt_in (i := 1532) (by decide +kernel) rfl
theorem m_1533 : (Jvm.Cond.code ({ cls := "SlitDrumModel", name := "itemOf", desc := "(II)I" } : Jvm.MethodName) prog_14_method_36_code (2 : Nat) (Option.some Jvm.ClassFile.FieldType.int)) ∈ wt_ := wt_in (i := 1533) (by decide +kernel) rfl
theorem m_1534 : (Jvm.Cond.methodLink "SlitDrumModel" (219 : Nat) ({ cls := "SlitDrumModel", name := "has", desc := "(II)Z" } : Jvm.MethodName)) ∈ wt_ := wt_in (i := 1534) (by decide +kernel) rfl
theorem m_1535 : (Jvm.Cond.static ({ cls := "SlitDrumModel", name := "has", desc := "(II)Z" } : Jvm.MethodName)) ∈ wt_ := wt_in (i := 1535) (by decide +kernel) rfl
theorem m_1536 : (Jvm.Cond.code ({ cls := "SlitDrumModel", name := "has", desc := "(II)Z" } : Jvm.MethodName) prog_14_method_2_code (2 : Nat) (Option.some Jvm.ClassFile.FieldType.boolean)) ∈ wt_ := wt_in (i := 1536) (by decide +kernel) rfl
theorem m_1537 : (Jvm.Cond.methodLink "SlitDrumModel" (223 : Nat) ({ cls := "SlitDrumModel", name := "highest", desc := "(II)I" } : Jvm.MethodName)) ∈ wt_ := wt_in (i := 1537) (by decide +kernel) rfl
theorem m_1538 : (Jvm.Cond.static ({ cls := "SlitDrumModel", name := "highest", desc := "(II)I" } : Jvm.MethodName)) ∈ wt_ := wt_in (i := 1538) (by decide +kernel) rfl
theorem m_1539 : (Jvm.Cond.code ({ cls := "SlitDrumModel", name := "highest", desc := "(II)I" } : Jvm.MethodName) prog_14_method_37_code (2 : Nat) (Option.some Jvm.ClassFile.FieldType.int)) ∈ wt_ := wt_in (i := 1539) (by decide +kernel) rfl
theorem m_1540 : (Jvm.Cond.methodLink "SlitDrumModel" (226 : Nat) ({ cls := "SlitDrumModel", name := "number", desc := "(II)I" } : Jvm.MethodName)) ∈ wt_ := wt_in (i := 1540) (by decide +kernel) rfl
theorem m_1542 : (Jvm.Cond.instanceMethod ({ cls := "SlitDrumModel", name := "number", desc := "(II)I" } : Jvm.MethodName)) ∈ wt_ := wt_in (i := 1542) (by decide +kernel) rfl
theorem m_1543 : (Jvm.Cond.code ({ cls := "SlitDrumModel", name := "number", desc := "(II)I" } : Jvm.MethodName) prog_14_method_35_code (4 : Nat) (Option.some Jvm.ClassFile.FieldType.int)) ∈ wt_ := wt_in (i := 1543) (by decide +kernel) rfl
theorem m_1544 : (Jvm.Cond.methodLink "SlitDrumModel" (125 : Nat) ({ cls := "SlitDrumModel", name := "isDigit", desc := "(I)Z" } : Jvm.MethodName)) ∈ wt_ := wt_in (i := 1544) (by decide +kernel) rfl
theorem m_1545 : (Jvm.Cond.static ({ cls := "SlitDrumModel", name := "isDigit", desc := "(I)Z" } : Jvm.MethodName)) ∈ wt_ := wt_in (i := 1545) (by decide +kernel) rfl
theorem m_1546 : (Jvm.Cond.code ({ cls := "SlitDrumModel", name := "isDigit", desc := "(I)Z" } : Jvm.MethodName) prog_14_method_12_code (1 : Nat) (Option.some Jvm.ClassFile.FieldType.boolean)) ∈ wt_ := wt_in (i := 1546) (by decide +kernel) rfl
theorem m_1547 : (Jvm.Cond.methodLink "SlitDrumModel" (119 : Nat) ({ cls := "SlitDrumModel", name := "bad", desc := "()V" } : Jvm.MethodName)) ∈ wt_ := wt_in (i := 1547) (by decide +kernel) rfl
theorem m_1549 : (Jvm.Cond.instanceMethod ({ cls := "SlitDrumModel", name := "bad", desc := "()V" } : Jvm.MethodName)) ∈ wt_ := wt_in (i := 1549) (by decide +kernel) rfl
theorem m_1550 : (Jvm.Cond.code ({ cls := "SlitDrumModel", name := "bad", desc := "()V" } : Jvm.MethodName) prog_14_method_11_code (1 : Nat) (Option.none : Option Jvm.ClassFile.FieldType)) ∈ wt_ := wt_in (i := 1550) (by decide +kernel) rfl
theorem m_1551 : (Jvm.Cond.methodLink "SlitDrumModel" (208 : Nat) ({ cls := "SlitDrumModel", name := "in", desc := "(III)Z" } : Jvm.MethodName)) ∈ wt_ := wt_in (i := 1551) (by decide +kernel) rfl
theorem m_1552 : (Jvm.Cond.static ({ cls := "SlitDrumModel", name := "in", desc := "(III)Z" } : Jvm.MethodName)) ∈ wt_ := wt_in (i := 1552) (by decide +kernel) rfl
theorem m_1553 : (Jvm.Cond.code ({ cls := "SlitDrumModel", name := "in", desc := "(III)Z" } : Jvm.MethodName) prog_14_method_1_code (3 : Nat) (Option.some Jvm.ClassFile.FieldType.boolean)) ∈ wt_ := wt_in (i := 1553) (by decide +kernel) rfl
theorem m_1554 : (Jvm.Cond.methodLink "SlitDrumModel" (245 : Nat) ({ cls := "SlitDrumModel", name := "readLaw", desc := "(I)I" } : Jvm.MethodName)) ∈ wt_ := wt_in (i := 1554) (by decide +kernel) rfl
theorem m_1556 : (Jvm.Cond.instanceMethod ({ cls := "SlitDrumModel", name := "readLaw", desc := "(I)I" } : Jvm.MethodName)) ∈ wt_ := wt_in (i := 1556) (by decide +kernel) rfl
theorem m_1557 : (Jvm.Cond.code ({ cls := "SlitDrumModel", name := "readLaw", desc := "(I)I" } : Jvm.MethodName) prog_14_method_30_code (2 : Nat) (Option.some Jvm.ClassFile.FieldType.int)) ∈ wt_ := wt_in (i := 1557) (by decide +kernel) rfl
theorem m_1558 : (Jvm.Cond.methodLink "SlitDrumModel" (174 : Nat) ({ cls := "SlitDrumModel", name := "open", desc := "(I)V" } : Jvm.MethodName)) ∈ wt_ := wt_in (i := 1558) (by decide +kernel) rfl
theorem m_1560 : (Jvm.Cond.instanceMethod ({ cls := "SlitDrumModel", name := "open", desc := "(I)V" } : Jvm.MethodName)) ∈ wt_ := wt_in (i := 1560) (by decide +kernel) rfl
theorem m_1561 : (Jvm.Cond.code ({ cls := "SlitDrumModel", name := "open", desc := "(I)V" } : Jvm.MethodName) prog_14_method_28_code (2 : Nat) (Option.none : Option Jvm.ClassFile.FieldType)) ∈ wt_ := wt_in (i := 1561) (by decide +kernel) rfl
theorem m_1562 : (Jvm.Cond.methodLink "SlitDrumModel" (177 : Nat) ({ cls := "SlitDrumModel", name := "clause", desc := "()V" } : Jvm.MethodName)) ∈ wt_ := wt_in (i := 1562) (by decide +kernel) rfl
theorem m_1564 : (Jvm.Cond.instanceMethod ({ cls := "SlitDrumModel", name := "clause", desc := "()V" } : Jvm.MethodName)) ∈ wt_ := wt_in (i := 1564) (by decide +kernel) rfl
theorem m_1565 : (Jvm.Cond.code ({ cls := "SlitDrumModel", name := "clause", desc := "()V" } : Jvm.MethodName) prog_14_method_27_code (3 : Nat) (Option.none : Option Jvm.ClassFile.FieldType)) ∈ wt_ := wt_in (i := 1565) (by decide +kernel) rfl
theorem m_1566 : (Jvm.Cond.methodLink "SlitDrumModel" (162 : Nat) ({ cls := "SlitDrumModel", name := "condition", desc := "()V" } : Jvm.MethodName)) ∈ wt_ := wt_in (i := 1566) (by decide +kernel) rfl
theorem m_1568 : (Jvm.Cond.instanceMethod ({ cls := "SlitDrumModel", name := "condition", desc := "()V" } : Jvm.MethodName)) ∈ wt_ := wt_in (i := 1568) (by decide +kernel) rfl
theorem m_1569 : (Jvm.Cond.code ({ cls := "SlitDrumModel", name := "condition", desc := "()V" } : Jvm.MethodName) prog_14_method_26_code (1 : Nat) (Option.none : Option Jvm.ClassFile.FieldType)) ∈ wt_ := wt_in (i := 1569) (by decide +kernel) rfl
theorem m_1570 : (Jvm.Cond.methodLink "SlitDrumModel" (159 : Nat) ({ cls := "SlitDrumModel", name := "unit", desc := "()V" } : Jvm.MethodName)) ∈ wt_ := wt_in (i := 1570) (by decide +kernel) rfl
theorem m_1572 : (Jvm.Cond.instanceMethod ({ cls := "SlitDrumModel", name := "unit", desc := "()V" } : Jvm.MethodName)) ∈ wt_ := wt_in (i := 1572) (by decide +kernel) rfl
theorem m_1573 : (Jvm.Cond.code ({ cls := "SlitDrumModel", name := "unit", desc := "()V" } : Jvm.MethodName) prog_14_method_23_code (2 : Nat) (Option.none : Option Jvm.ClassFile.FieldType)) ∈ wt_ := wt_in (i := 1573) (by decide +kernel) rfl
theorem m_1574 : (Jvm.Cond.methodLink "SlitDrumModel" (140 : Nat) ({ cls := "SlitDrumModel", name := "opens", desc := "()V" } : Jvm.MethodName)) ∈ wt_ := wt_in (i := 1574) (by decide +kernel) rfl
theorem m_1576 : (Jvm.Cond.instanceMethod ({ cls := "SlitDrumModel", name := "opens", desc := "()V" } : Jvm.MethodName)) ∈ wt_ := wt_in (i := 1576) (by decide +kernel) rfl
theorem m_1577 : (Jvm.Cond.code ({ cls := "SlitDrumModel", name := "opens", desc := "()V" } : Jvm.MethodName) prog_14_method_15_code (1 : Nat) (Option.none : Option Jvm.ClassFile.FieldType)) ∈ wt_ := wt_in (i := 1577) (by decide +kernel) rfl
theorem m_1578 : (Jvm.Cond.methodLink "SlitDrumModel" (132 : Nat) ({ cls := "SlitDrumModel", name := "put", desc := "(II)V" } : Jvm.MethodName)) ∈ wt_ := wt_in (i := 1578) (by decide +kernel) rfl
theorem m_1580 : (Jvm.Cond.instanceMethod ({ cls := "SlitDrumModel", name := "put", desc := "(II)V" } : Jvm.MethodName)) ∈ wt_ := wt_in (i := 1580) (by decide +kernel) rfl
theorem m_1581 : (Jvm.Cond.code ({ cls := "SlitDrumModel", name := "put", desc := "(II)V" } : Jvm.MethodName) prog_14_method_13_code (3 : Nat) (Option.none : Option Jvm.ClassFile.FieldType)) ∈ wt_ := wt_in (i := 1581) (by decide +kernel) rfl
theorem m_1582 : (Jvm.Cond.methodLink "SlitDrumModel" (146 : Nat) ({ cls := "SlitDrumModel", name := "closes", desc := "(I)V" } : Jvm.MethodName)) ∈ wt_ := wt_in (i := 1582) (by decide +kernel) rfl
theorem m_1584 : (Jvm.Cond.instanceMethod ({ cls := "SlitDrumModel", name := "closes", desc := "(I)V" } : Jvm.MethodName)) ∈ wt_ := wt_in (i := 1584) (by decide +kernel) rfl
theorem m_1585 : (Jvm.Cond.code ({ cls := "SlitDrumModel", name := "closes", desc := "(I)V" } : Jvm.MethodName) prog_14_method_16_code (2 : Nat) (Option.none : Option Jvm.ClassFile.FieldType)) ∈ wt_ := wt_in (i := 1585) (by decide +kernel) rfl
theorem m_1586 : (Jvm.Cond.methodLink "SlitDrumModel" (143 : Nat) ({ cls := "SlitDrumModel", name := "sum", desc := "()V" } : Jvm.MethodName)) ∈ wt_ := wt_in (i := 1586) (by decide +kernel) rfl
theorem m_1588 : (Jvm.Cond.instanceMethod ({ cls := "SlitDrumModel", name := "sum", desc := "()V" } : Jvm.MethodName)) ∈ wt_ := wt_in (i := 1588) (by decide +kernel) rfl
theorem m_1589 : (Jvm.Cond.code ({ cls := "SlitDrumModel", name := "sum", desc := "()V" } : Jvm.MethodName) prog_14_method_20_code (2 : Nat) (Option.none : Option Jvm.ClassFile.FieldType)) ∈ wt_ := wt_in (i := 1589) (by decide +kernel) rfl
theorem m_1590 : (Jvm.Cond.methodLink "SlitDrumModel" (153 : Nat) ({ cls := "SlitDrumModel", name := "term", desc := "()V" } : Jvm.MethodName)) ∈ wt_ := wt_in (i := 1590) (by decide +kernel) rfl
theorem m_1592 : (Jvm.Cond.instanceMethod ({ cls := "SlitDrumModel", name := "term", desc := "()V" } : Jvm.MethodName)) ∈ wt_ := wt_in (i := 1592) (by decide +kernel) rfl
theorem m_1593 : (Jvm.Cond.code ({ cls := "SlitDrumModel", name := "term", desc := "()V" } : Jvm.MethodName) prog_14_method_19_code (2 : Nat) (Option.none : Option Jvm.ClassFile.FieldType)) ∈ wt_ := wt_in (i := 1593) (by decide +kernel) rfl
theorem m_1594 : (Jvm.Cond.methodLink "SlitDrumModel" (150 : Nat) ({ cls := "SlitDrumModel", name := "atom", desc := "()V" } : Jvm.MethodName)) ∈ wt_ := wt_in (i := 1594) (by decide +kernel) rfl
theorem m_1596 : (Jvm.Cond.instanceMethod ({ cls := "SlitDrumModel", name := "atom", desc := "()V" } : Jvm.MethodName)) ∈ wt_ := wt_in (i := 1596) (by decide +kernel) rfl
theorem m_1597 : (Jvm.Cond.code ({ cls := "SlitDrumModel", name := "atom", desc := "()V" } : Jvm.MethodName) prog_14_method_18_code (2 : Nat) (Option.none : Option Jvm.ClassFile.FieldType)) ∈ wt_ := wt_in (i := 1597) (by decide +kernel) rfl
theorem m_1598 : (Jvm.Cond.methodLink "SlitDrumModel" (129 : Nat) ({ cls := "SlitDrumModel", name := "plainNumber", desc := "()I" } : Jvm.MethodName)) ∈ wt_ := wt_in (i := 1598) (by decide +kernel) rfl
theorem m_1600 : (Jvm.Cond.instanceMethod ({ cls := "SlitDrumModel", name := "plainNumber", desc := "()I" } : Jvm.MethodName)) ∈ wt_ := wt_in (i := 1600) (by decide +kernel) rfl
theorem m_1601 : (Jvm.Cond.code ({ cls := "SlitDrumModel", name := "plainNumber", desc := "()I" } : Jvm.MethodName) prog_14_method_17_code (3 : Nat) (Option.some Jvm.ClassFile.FieldType.int)) ∈ wt_ := wt_in (i := 1601) (by decide +kernel) rfl
theorem m_1602 : (Jvm.Cond.methodLink "SlitDrumModel" (136 : Nat) ({ cls := "SlitDrumModel", name := "letterOf", desc := "(I)I" } : Jvm.MethodName)) ∈ wt_ := wt_in (i := 1602) (by decide +kernel) rfl
theorem m_1603 : (Jvm.Cond.static ({ cls := "SlitDrumModel", name := "letterOf", desc := "(I)I" } : Jvm.MethodName)) ∈ wt_ := wt_in (i := 1603) (by decide +kernel) rfl
theorem m_1604 : (Jvm.Cond.code ({ cls := "SlitDrumModel", name := "letterOf", desc := "(I)I" } : Jvm.MethodName) prog_14_method_14_code (1 : Nat) (Option.some Jvm.ClassFile.FieldType.int)) ∈ wt_ := wt_in (i := 1604) (by decide +kernel) rfl
theorem m_1605 : (Jvm.Cond.methodLink "SlitDrumModel" (165 : Nat) ({ cls := "SlitDrumModel", name := "compare", desc := "()V" } : Jvm.MethodName)) ∈ wt_ := wt_in (i := 1605) (by decide +kernel) rfl
theorem m_1607 : (Jvm.Cond.instanceMethod ({ cls := "SlitDrumModel", name := "compare", desc := "()V" } : Jvm.MethodName)) ∈ wt_ := wt_in (i := 1607) (by decide +kernel) rfl
theorem m_1608 : (Jvm.Cond.code ({ cls := "SlitDrumModel", name := "compare", desc := "()V" } : Jvm.MethodName) prog_14_method_22_code (2 : Nat) (Option.none : Option Jvm.ClassFile.FieldType)) ∈ wt_ := wt_in (i := 1608) (by decide +kernel) rfl
theorem m_1609 : (Jvm.Cond.methodLink "SlitDrumModel" (156 : Nat) ({ cls := "SlitDrumModel", name := "isSign", desc := "(I)Z" } : Jvm.MethodName)) ∈ wt_ := wt_in (i := 1609) (by decide +kernel) rfl
theorem m_1610 : (Jvm.Cond.static ({ cls := "SlitDrumModel", name := "isSign", desc := "(I)Z" } : Jvm.MethodName)) ∈ wt_ := wt_in (i := 1610) (by decide +kernel) rfl
theorem m_1611 : (Jvm.Cond.code ({ cls := "SlitDrumModel", name := "isSign", desc := "(I)Z" } : Jvm.MethodName) prog_14_method_21_code (1 : Nat) (Option.some Jvm.ClassFile.FieldType.boolean)) ∈ wt_ := wt_in (i := 1611) (by decide +kernel) rfl
theorem m_1612 : (Jvm.Cond.methodLink "SlitDrumModel" (168 : Nat) ({ cls := "SlitDrumModel", name := "goOnAnd", desc := "()V" } : Jvm.MethodName)) ∈ wt_ := wt_in (i := 1612) (by decide +kernel) rfl
theorem m_1614 : (Jvm.Cond.instanceMethod ({ cls := "SlitDrumModel", name := "goOnAnd", desc := "()V" } : Jvm.MethodName)) ∈ wt_ := wt_in (i := 1614) (by decide +kernel) rfl
theorem m_1615 : (Jvm.Cond.code ({ cls := "SlitDrumModel", name := "goOnAnd", desc := "()V" } : Jvm.MethodName) prog_14_method_24_code (1 : Nat) (Option.none : Option Jvm.ClassFile.FieldType)) ∈ wt_ := wt_in (i := 1615) (by decide +kernel) rfl
theorem m_1616 : (Jvm.Cond.methodLink "SlitDrumModel" (171 : Nat) ({ cls := "SlitDrumModel", name := "goOnOr", desc := "()V" } : Jvm.MethodName)) ∈ wt_ := wt_in (i := 1616) (by decide +kernel) rfl
theorem m_1618 : (Jvm.Cond.instanceMethod ({ cls := "SlitDrumModel", name := "goOnOr", desc := "()V" } : Jvm.MethodName)) ∈ wt_ := wt_in (i := 1618) (by decide +kernel) rfl
theorem m_1619 : (Jvm.Cond.code ({ cls := "SlitDrumModel", name := "goOnOr", desc := "()V" } : Jvm.MethodName) prog_14_method_25_code (1 : Nat) (Option.none : Option Jvm.ClassFile.FieldType)) ∈ wt_ := wt_in (i := 1619) (by decide +kernel) rfl
theorem m_1620 : (Jvm.Cond.methodLink "SlitDrumModel" (180 : Nat) ({ cls := "SlitDrumModel", name := "atEnd", desc := "()I" } : Jvm.MethodName)) ∈ wt_ := wt_in (i := 1620) (by decide +kernel) rfl
theorem m_1622 : (Jvm.Cond.instanceMethod ({ cls := "SlitDrumModel", name := "atEnd", desc := "()I" } : Jvm.MethodName)) ∈ wt_ := wt_in (i := 1622) (by decide +kernel) rfl
theorem m_1623 : (Jvm.Cond.code ({ cls := "SlitDrumModel", name := "atEnd", desc := "()I" } : Jvm.MethodName) prog_14_method_29_code (1 : Nat) (Option.some Jvm.ClassFile.FieldType.int)) ∈ wt_ := wt_in (i := 1623) (by decide +kernel) rfl
theorem m_1624 : (Jvm.Cond.methodLink "SlitDrumModel" (248 : Nat) ({ cls := "SlitDrumModel", name := "readStrip", desc := "(I)I" } : Jvm.MethodName)) ∈ wt_ := wt_in (i := 1624) (by decide +kernel) rfl
theorem m_1626 : (Jvm.Cond.instanceMethod ({ cls := "SlitDrumModel", name := "readStrip", desc := "(I)I" } : Jvm.MethodName)) ∈ wt_ := wt_in (i := 1626) (by decide +kernel) rfl
theorem m_1627 : (Jvm.Cond.code ({ cls := "SlitDrumModel", name := "readStrip", desc := "(I)I" } : Jvm.MethodName) prog_14_method_43_code (3 : Nat) (Option.some Jvm.ClassFile.FieldType.int)) ∈ wt_ := wt_in (i := 1627) (by decide +kernel) rfl
theorem m_1628 : (Jvm.Cond.methodLink "SlitDrumModel" (239 : Nat) ({ cls := "SlitDrumModel", name := "readPicture", desc := "(II)V" } : Jvm.MethodName)) ∈ wt_ := wt_in (i := 1628) (by decide +kernel) rfl
theorem m_1630 : (Jvm.Cond.instanceMethod ({ cls := "SlitDrumModel", name := "readPicture", desc := "(II)V" } : Jvm.MethodName)) ∈ wt_ := wt_in (i := 1630) (by decide +kernel) rfl
theorem m_1631 : (Jvm.Cond.code ({ cls := "SlitDrumModel", name := "readPicture", desc := "(II)V" } : Jvm.MethodName) prog_14_method_42_code (5 : Nat) (Option.none : Option Jvm.ClassFile.FieldType)) ∈ wt_ := wt_in (i := 1631) (by decide +kernel) rfl
theorem m_1632 : (Jvm.Cond.methodLink "SlitDrumModel" (236 : Nat) ({ cls := "SlitDrumModel", name := "isPicture", desc := "(I)Z" } : Jvm.MethodName)) ∈ wt_ := wt_in (i := 1632) (by decide +kernel) rfl
theorem m_1633 : (Jvm.Cond.static ({ cls := "SlitDrumModel", name := "isPicture", desc := "(I)Z" } : Jvm.MethodName)) ∈ wt_ := wt_in (i := 1633) (by decide +kernel) rfl
theorem m_1634 : (Jvm.Cond.code ({ cls := "SlitDrumModel", name := "isPicture", desc := "(I)Z" } : Jvm.MethodName) prog_14_method_41_code (1 : Nat) (Option.some Jvm.ClassFile.FieldType.boolean)) ∈ wt_ := wt_in (i := 1634) (by decide +kernel) rfl
theorem m_1635 : (Jvm.Cond.methodLink "SlitDrumLaw" (37 : Nat) ({ cls := "SlitDrumModel", name := "text", desc := "(I)I" } : Jvm.MethodName)) ∈ wt_ := wt_in (i := 1635) (by decide +kernel) rfl
theorem m_1636 : (Jvm.Cond.instanceMethod ({ cls := "SlitDrumModel", name := "text", desc := "(I)I" } : Jvm.MethodName)) ∈ wt_ := wt_in (i := 1636) (by decide +kernel) rfl
theorem m_1637 : (Jvm.Cond.selects "SlitDrumModel" ({ cls := "SlitDrumModel", name := "text", desc := "(I)I" } : Jvm.MethodName) ({ cls := "SlitDrumModel", name := "text", desc := "(I)I" } : Jvm.MethodName)) ∈ wt_ := wt_in (i := 1637) (by decide +kernel) rfl
theorem m_1638 : (Jvm.Cond.code ({ cls := "SlitDrumModel", name := "text", desc := "(I)I" } : Jvm.MethodName) prog_14_method_51_code (2 : Nat) (Option.some Jvm.ClassFile.FieldType.int)) ∈ wt_ := wt_in (i := 1638) (by decide +kernel) rfl
theorem m_1639 : (Jvm.Cond.methodLink "SlitDrumModel" (279 : Nat) ({ cls := "SlitDrumModel", name := "takeLantern", desc := "()I" } : Jvm.MethodName)) ∈ wt_ := wt_in (i := 1639) (by decide +kernel) rfl
theorem m_1641 : (Jvm.Cond.instanceMethod ({ cls := "SlitDrumModel", name := "takeLantern", desc := "()I" } : Jvm.MethodName)) ∈ wt_ := wt_in (i := 1641) (by decide +kernel) rfl
theorem m_1642 : (Jvm.Cond.code ({ cls := "SlitDrumModel", name := "takeLantern", desc := "()I" } : Jvm.MethodName) prog_14_method_50_code (2 : Nat) (Option.some Jvm.ClassFile.FieldType.int)) ∈ wt_ := wt_in (i := 1642) (by decide +kernel) rfl
theorem m_1643 : (Jvm.Cond.methodLink "SlitDrumModel" (254 : Nat) ({ cls := "SlitDrumModel", name := "of", desc := "(II)I" } : Jvm.MethodName)) ∈ wt_ := wt_in (i := 1643) (by decide +kernel) rfl
theorem m_1645 : (Jvm.Cond.instanceMethod ({ cls := "SlitDrumModel", name := "of", desc := "(II)I" } : Jvm.MethodName)) ∈ wt_ := wt_in (i := 1645) (by decide +kernel) rfl
theorem m_1646 : (Jvm.Cond.code ({ cls := "SlitDrumModel", name := "of", desc := "(II)I" } : Jvm.MethodName) prog_14_method_45_code (3 : Nat) (Option.some Jvm.ClassFile.FieldType.int)) ∈ wt_ := wt_in (i := 1646) (by decide +kernel) rfl
theorem m_1647 : (Jvm.Cond.methodLink "SlitDrumModel" (266 : Nat) ({ cls := "SlitDrumModel", name := "longOf", desc := "(I)I" } : Jvm.MethodName)) ∈ wt_ := wt_in (i := 1647) (by decide +kernel) rfl
theorem m_1649 : (Jvm.Cond.instanceMethod ({ cls := "SlitDrumModel", name := "longOf", desc := "(I)I" } : Jvm.MethodName)) ∈ wt_ := wt_in (i := 1649) (by decide +kernel) rfl
theorem m_1650 : (Jvm.Cond.code ({ cls := "SlitDrumModel", name := "longOf", desc := "(I)I" } : Jvm.MethodName) prog_14_method_47_code (2 : Nat) (Option.some Jvm.ClassFile.FieldType.int)) ∈ wt_ := wt_in (i := 1650) (by decide +kernel) rfl
theorem m_1651 : (Jvm.Cond.methodLink "SlitDrumModel" (257 : Nat) ({ cls := "SlitDrumModel", name := "stripLongOf", desc := "(I)I" } : Jvm.MethodName)) ∈ wt_ := wt_in (i := 1651) (by decide +kernel) rfl
theorem m_1653 : (Jvm.Cond.instanceMethod ({ cls := "SlitDrumModel", name := "stripLongOf", desc := "(I)I" } : Jvm.MethodName)) ∈ wt_ := wt_in (i := 1653) (by decide +kernel) rfl
theorem m_1654 : (Jvm.Cond.code ({ cls := "SlitDrumModel", name := "stripLongOf", desc := "(I)I" } : Jvm.MethodName) prog_14_method_46_code (2 : Nat) (Option.some Jvm.ClassFile.FieldType.int)) ∈ wt_ := wt_in (i := 1654) (by decide +kernel) rfl
theorem m_1655 : (Jvm.Cond.methodLink "SlitDrumLaw" (41 : Nat) ({ cls := "SlitDrumModel", name := "rule", desc := "(I)I" } : Jvm.MethodName)) ∈ wt_ := wt_in (i := 1655) (by decide +kernel) rfl
theorem m_1656 : (Jvm.Cond.instanceMethod ({ cls := "SlitDrumModel", name := "rule", desc := "(I)I" } : Jvm.MethodName)) ∈ wt_ := wt_in (i := 1656) (by decide +kernel) rfl
theorem m_1657 : (Jvm.Cond.selects "SlitDrumModel" ({ cls := "SlitDrumModel", name := "rule", desc := "(I)I" } : Jvm.MethodName) ({ cls := "SlitDrumModel", name := "rule", desc := "(I)I" } : Jvm.MethodName)) ∈ wt_ := wt_in (i := 1657) (by decide +kernel) rfl
theorem m_1658 : (Jvm.Cond.code ({ cls := "SlitDrumModel", name := "rule", desc := "(I)I" } : Jvm.MethodName) prog_14_method_59_code (2 : Nat) (Option.some Jvm.ClassFile.FieldType.int)) ∈ wt_ := wt_in (i := 1658) (by decide +kernel) rfl
theorem m_1659 : (Jvm.Cond.methodLink "SlitDrumLaw" (47 : Nat) ({ cls := "SlitDrumModel", name := "wheel", desc := "(II)I" } : Jvm.MethodName)) ∈ wt_ := wt_in (i := 1659) (by decide +kernel) rfl
theorem m_1660 : (Jvm.Cond.instanceMethod ({ cls := "SlitDrumModel", name := "wheel", desc := "(II)I" } : Jvm.MethodName)) ∈ wt_ := wt_in (i := 1660) (by decide +kernel) rfl
theorem m_1661 : (Jvm.Cond.selects "SlitDrumModel" ({ cls := "SlitDrumModel", name := "wheel", desc := "(II)I" } : Jvm.MethodName) ({ cls := "SlitDrumModel", name := "wheel", desc := "(II)I" } : Jvm.MethodName)) ∈ wt_ := wt_in (i := 1661) (by decide +kernel) rfl
theorem m_1662 : (Jvm.Cond.code ({ cls := "SlitDrumModel", name := "wheel", desc := "(II)I" } : Jvm.MethodName) prog_14_method_60_code (3 : Nat) (Option.some Jvm.ClassFile.FieldType.int)) ∈ wt_ := wt_in (i := 1662) (by decide +kernel) rfl
theorem m_1663 : (Jvm.Cond.methodLink "SlitDrumModel" (307 : Nat) ({ cls := "SlitDrumModel", name := "isWheel", desc := "(I)Z" } : Jvm.MethodName)) ∈ wt_ := wt_in (i := 1663) (by decide +kernel) rfl
theorem m_1665 : (Jvm.Cond.instanceMethod ({ cls := "SlitDrumModel", name := "isWheel", desc := "(I)Z" } : Jvm.MethodName)) ∈ wt_ := wt_in (i := 1665) (by decide +kernel) rfl
theorem m_1666 : (Jvm.Cond.code ({ cls := "SlitDrumModel", name := "isWheel", desc := "(I)Z" } : Jvm.MethodName) prog_14_method_52_code (2 : Nat) (Option.some Jvm.ClassFile.FieldType.boolean)) ∈ wt_ := wt_in (i := 1666) (by decide +kernel) rfl
theorem m_1667 : (Jvm.Cond.methodLink "SlitDrumModel" (304 : Nat) ({ cls := "SlitDrumModel", name := "showsOf", desc := "(I)I" } : Jvm.MethodName)) ∈ wt_ := wt_in (i := 1667) (by decide +kernel) rfl
theorem m_1669 : (Jvm.Cond.instanceMethod ({ cls := "SlitDrumModel", name := "showsOf", desc := "(I)I" } : Jvm.MethodName)) ∈ wt_ := wt_in (i := 1669) (by decide +kernel) rfl
theorem m_1670 : (Jvm.Cond.code ({ cls := "SlitDrumModel", name := "showsOf", desc := "(I)I" } : Jvm.MethodName) prog_14_method_49_code (2 : Nat) (Option.some Jvm.ClassFile.FieldType.int)) ∈ wt_ := wt_in (i := 1670) (by decide +kernel) rfl
theorem m_1671 : (Jvm.Cond.methodLink "SlitDrumModel" (260 : Nat) ({ cls := "SlitDrumModel", name := "pictureAt", desc := "(II)I" } : Jvm.MethodName)) ∈ wt_ := wt_in (i := 1671) (by decide +kernel) rfl
theorem m_1673 : (Jvm.Cond.instanceMethod ({ cls := "SlitDrumModel", name := "pictureAt", desc := "(II)I" } : Jvm.MethodName)) ∈ wt_ := wt_in (i := 1673) (by decide +kernel) rfl
theorem m_1674 : (Jvm.Cond.code ({ cls := "SlitDrumModel", name := "pictureAt", desc := "(II)I" } : Jvm.MethodName) prog_14_method_48_code (3 : Nat) (Option.some Jvm.ClassFile.FieldType.int)) ∈ wt_ := wt_in (i := 1674) (by decide +kernel) rfl
theorem m_1675 : (Jvm.Cond.methodLink "SlitDrumLaw" (55 : Nat) ({ cls := "SlitDrumModel", name := "picture", desc := "(II)I" } : Jvm.MethodName)) ∈ wt_ := wt_in (i := 1675) (by decide +kernel) rfl
theorem m_1676 : (Jvm.Cond.instanceMethod ({ cls := "SlitDrumModel", name := "picture", desc := "(II)I" } : Jvm.MethodName)) ∈ wt_ := wt_in (i := 1676) (by decide +kernel) rfl
theorem m_1677 : (Jvm.Cond.selects "SlitDrumModel" ({ cls := "SlitDrumModel", name := "picture", desc := "(II)I" } : Jvm.MethodName) ({ cls := "SlitDrumModel", name := "picture", desc := "(II)I" } : Jvm.MethodName)) ∈ wt_ := wt_in (i := 1677) (by decide +kernel) rfl
theorem m_1678 : (Jvm.Cond.code ({ cls := "SlitDrumModel", name := "picture", desc := "(II)I" } : Jvm.MethodName) prog_14_method_61_code (3 : Nat) (Option.some Jvm.ClassFile.FieldType.int)) ∈ wt_ := wt_in (i := 1678) (by decide +kernel) rfl
theorem m_1679 : (Jvm.Cond.methodLink "SlitDrumModel" (310 : Nat) ({ cls := "SlitDrumModel", name := "isStrip", desc := "(I)Z" } : Jvm.MethodName)) ∈ wt_ := wt_in (i := 1679) (by decide +kernel) rfl
theorem m_1681 : (Jvm.Cond.instanceMethod ({ cls := "SlitDrumModel", name := "isStrip", desc := "(I)Z" } : Jvm.MethodName)) ∈ wt_ := wt_in (i := 1681) (by decide +kernel) rfl
theorem m_1682 : (Jvm.Cond.code ({ cls := "SlitDrumModel", name := "isStrip", desc := "(I)Z" } : Jvm.MethodName) prog_14_method_53_code (2 : Nat) (Option.some Jvm.ClassFile.FieldType.boolean)) ∈ wt_ := wt_in (i := 1682) (by decide +kernel) rfl
theorem m_1683 : (Jvm.Cond.methodLink "SlitDrumLaw" (59 : Nat) ({ cls := "SlitDrumModel", name := "law", desc := "(I)Z" } : Jvm.MethodName)) ∈ wt_ := wt_in (i := 1683) (by decide +kernel) rfl
theorem m_1684 : (Jvm.Cond.instanceMethod ({ cls := "SlitDrumModel", name := "law", desc := "(I)Z" } : Jvm.MethodName)) ∈ wt_ := wt_in (i := 1684) (by decide +kernel) rfl
theorem m_1685 : (Jvm.Cond.selects "SlitDrumModel" ({ cls := "SlitDrumModel", name := "law", desc := "(I)Z" } : Jvm.MethodName) ({ cls := "SlitDrumModel", name := "law", desc := "(I)Z" } : Jvm.MethodName)) ∈ wt_ := wt_in (i := 1685) (by decide +kernel) rfl
theorem m_1686 : (Jvm.Cond.code ({ cls := "SlitDrumModel", name := "law", desc := "(I)Z" } : Jvm.MethodName) prog_14_method_62_code (2 : Nat) (Option.some Jvm.ClassFile.FieldType.boolean)) ∈ wt_ := wt_in (i := 1686) (by decide +kernel) rfl
theorem m_1687 : (Jvm.Cond.methodLink "SlitDrumLaw" (63 : Nat) ({ cls := "SlitDrumModel", name := "touch", desc := "(I)Z" } : Jvm.MethodName)) ∈ wt_ := wt_in (i := 1687) (by decide +kernel) rfl
theorem m_1688 : (Jvm.Cond.instanceMethod ({ cls := "SlitDrumModel", name := "touch", desc := "(I)Z" } : Jvm.MethodName)) ∈ wt_ := wt_in (i := 1688) (by decide +kernel) rfl
theorem m_1689 : (Jvm.Cond.selects "SlitDrumModel" ({ cls := "SlitDrumModel", name := "touch", desc := "(I)Z" } : Jvm.MethodName) ({ cls := "SlitDrumModel", name := "touch", desc := "(I)Z" } : Jvm.MethodName)) ∈ wt_ := wt_in (i := 1689) (by decide +kernel) rfl
theorem m_1690 : (Jvm.Cond.code ({ cls := "SlitDrumModel", name := "touch", desc := "(I)Z" } : Jvm.MethodName) prog_14_method_63_code (2 : Nat) (Option.some Jvm.ClassFile.FieldType.boolean)) ∈ wt_ := wt_in (i := 1690) (by decide +kernel) rfl
theorem m_1691 : (Jvm.Cond.methodLink "SlitDrumLaw" (67 : Nat) ({ cls := "SlitDrumModel", name := "ticks", desc := "(I)I" } : Jvm.MethodName)) ∈ wt_ := wt_in (i := 1691) (by decide +kernel) rfl
theorem m_1692 : (Jvm.Cond.instanceMethod ({ cls := "SlitDrumModel", name := "ticks", desc := "(I)I" } : Jvm.MethodName)) ∈ wt_ := wt_in (i := 1692) (by decide +kernel) rfl
theorem m_1693 : (Jvm.Cond.selects "SlitDrumModel" ({ cls := "SlitDrumModel", name := "ticks", desc := "(I)I" } : Jvm.MethodName) ({ cls := "SlitDrumModel", name := "ticks", desc := "(I)I" } : Jvm.MethodName)) ∈ wt_ := wt_in (i := 1693) (by decide +kernel) rfl
theorem m_1694 : (Jvm.Cond.code ({ cls := "SlitDrumModel", name := "ticks", desc := "(I)I" } : Jvm.MethodName) prog_14_method_67_code (3 : Nat) (Option.some Jvm.ClassFile.FieldType.int)) ∈ wt_ := wt_in (i := 1694) (by decide +kernel) rfl
theorem m_1695 : (Jvm.Cond.methodLink "SlitDrumModel" (313 : Nat) ({ cls := "SlitDrumModel", name := "areTicks", desc := "(I)Z" } : Jvm.MethodName)) ∈ wt_ := wt_in (i := 1695) (by decide +kernel) rfl
theorem m_1697 : (Jvm.Cond.instanceMethod ({ cls := "SlitDrumModel", name := "areTicks", desc := "(I)Z" } : Jvm.MethodName)) ∈ wt_ := wt_in (i := 1697) (by decide +kernel) rfl
theorem m_1698 : (Jvm.Cond.code ({ cls := "SlitDrumModel", name := "areTicks", desc := "(I)Z" } : Jvm.MethodName) prog_14_method_66_code (2 : Nat) (Option.some Jvm.ClassFile.FieldType.boolean)) ∈ wt_ := wt_in (i := 1698) (by decide +kernel) rfl
theorem m_1699 : (Jvm.Cond.methodLink "SlitDrumModel" (316 : Nat) ({ cls := "SlitDrumModel", name := "isRefused", desc := "(I)Z" } : Jvm.MethodName)) ∈ wt_ := wt_in (i := 1699) (by decide +kernel) rfl
theorem m_1701 : (Jvm.Cond.instanceMethod ({ cls := "SlitDrumModel", name := "isRefused", desc := "(I)Z" } : Jvm.MethodName)) ∈ wt_ := wt_in (i := 1701) (by decide +kernel) rfl
theorem m_1702 : (Jvm.Cond.code ({ cls := "SlitDrumModel", name := "isRefused", desc := "(I)Z" } : Jvm.MethodName) prog_14_method_65_code (2 : Nat) (Option.some Jvm.ClassFile.FieldType.boolean)) ∈ wt_ := wt_in (i := 1702) (by decide +kernel) rfl
theorem m_1703 : (Jvm.Cond.methodLink "SlitDrumModel" (319 : Nat) ({ cls := "SlitDrumModel", name := "keep", desc := "()V" } : Jvm.MethodName)) ∈ wt_ := wt_in (i := 1703) (by decide +kernel) rfl
theorem m_1705 : (Jvm.Cond.instanceMethod ({ cls := "SlitDrumModel", name := "keep", desc := "()V" } : Jvm.MethodName)) ∈ wt_ := wt_in (i := 1705) (by decide +kernel) rfl
theorem m_1706 : (Jvm.Cond.code ({ cls := "SlitDrumModel", name := "keep", desc := "()V" } : Jvm.MethodName) prog_14_method_64_code (2 : Nat) (Option.none : Option Jvm.ClassFile.FieldType)) ∈ wt_ := wt_in (i := 1706) (by decide +kernel) rfl
theorem m_1707 : (Jvm.Cond.methodLink "SlitDrumModel" (322 : Nat) ({ cls := "SlitDrumModel", name := "passTick", desc := "()V" } : Jvm.MethodName)) ∈ wt_ := wt_in (i := 1707) (by decide +kernel) rfl
theorem m_1709 : (Jvm.Cond.instanceMethod ({ cls := "SlitDrumModel", name := "passTick", desc := "()V" } : Jvm.MethodName)) ∈ wt_ := wt_in (i := 1709) (by decide +kernel) rfl
theorem m_1710 : (Jvm.Cond.code ({ cls := "SlitDrumModel", name := "passTick", desc := "()V" } : Jvm.MethodName) prog_14_method_57_code (2 : Nat) (Option.none : Option Jvm.ClassFile.FieldType)) ∈ wt_ := wt_in (i := 1710) (by decide +kernel) rfl
theorem m_1711 : (Jvm.Cond.methodLink "SlitDrumModel" (298 : Nat) ({ cls := "SlitDrumModel", name := "nextOf", desc := "(III)I" } : Jvm.MethodName)) ∈ wt_ := wt_in (i := 1711) (by decide +kernel) rfl
theorem m_1713 : (Jvm.Cond.instanceMethod ({ cls := "SlitDrumModel", name := "nextOf", desc := "(III)I" } : Jvm.MethodName)) ∈ wt_ := wt_in (i := 1713) (by decide +kernel) rfl
theorem m_1714 : (Jvm.Cond.code ({ cls := "SlitDrumModel", name := "nextOf", desc := "(III)I" } : Jvm.MethodName) prog_14_method_55_code (4 : Nat) (Option.some Jvm.ClassFile.FieldType.int)) ∈ wt_ := wt_in (i := 1714) (by decide +kernel) rfl
theorem m_1715 : (Jvm.Cond.methodLink "SlitDrumModel" (292 : Nat) ({ cls := "SlitDrumModel", name := "moveBy", desc := "(III)I" } : Jvm.MethodName)) ∈ wt_ := wt_in (i := 1715) (by decide +kernel) rfl
theorem m_1717 : (Jvm.Cond.instanceMethod ({ cls := "SlitDrumModel", name := "moveBy", desc := "(III)I" } : Jvm.MethodName)) ∈ wt_ := wt_in (i := 1717) (by decide +kernel) rfl
theorem m_1718 : (Jvm.Cond.code ({ cls := "SlitDrumModel", name := "moveBy", desc := "(III)I" } : Jvm.MethodName) prog_14_method_54_code (5 : Nat) (Option.some Jvm.ClassFile.FieldType.int)) ∈ wt_ := wt_in (i := 1718) (by decide +kernel) rfl
theorem m_1719 : (Jvm.Cond.methodLink "SlitDrumModel" (285 : Nat) ({ cls := "SlitDrumModel", name := "worthOf", desc := "(I)I" } : Jvm.MethodName)) ∈ wt_ := wt_in (i := 1719) (by decide +kernel) rfl
theorem m_1721 : (Jvm.Cond.instanceMethod ({ cls := "SlitDrumModel", name := "worthOf", desc := "(I)I" } : Jvm.MethodName)) ∈ wt_ := wt_in (i := 1721) (by decide +kernel) rfl
theorem m_1722 : (Jvm.Cond.code ({ cls := "SlitDrumModel", name := "worthOf", desc := "(I)I" } : Jvm.MethodName) prog_14_method_34_code (3 : Nat) (Option.some Jvm.ClassFile.FieldType.int)) ∈ wt_ := wt_in (i := 1722) (by decide +kernel) rfl
theorem m_1723 : (Jvm.Cond.methodLink "SlitDrumModel" (204 : Nat) ({ cls := "SlitDrumModel", name := "workOut", desc := "(III)I" } : Jvm.MethodName)) ∈ wt_ := wt_in (i := 1723) (by decide +kernel) rfl
theorem m_1725 : (Jvm.Cond.instanceMethod ({ cls := "SlitDrumModel", name := "workOut", desc := "(III)I" } : Jvm.MethodName)) ∈ wt_ := wt_in (i := 1725) (by decide +kernel) rfl
theorem m_1726 : (Jvm.Cond.code ({ cls := "SlitDrumModel", name := "workOut", desc := "(III)I" } : Jvm.MethodName) prog_14_method_33_code (6 : Nat) (Option.some Jvm.ClassFile.FieldType.int)) ∈ wt_ := wt_in (i := 1726) (by decide +kernel) rfl
theorem m_1727 : (Jvm.Cond.methodLink "SlitDrumModel" (200 : Nat) ({ cls := "SlitDrumModel", name := "worked", desc := "(IJJ)I" } : Jvm.MethodName)) ∈ wt_ := wt_in (i := 1727) (by decide +kernel) rfl
theorem m_1728 : (Jvm.Cond.static ({ cls := "SlitDrumModel", name := "worked", desc := "(IJJ)I" } : Jvm.MethodName)) ∈ wt_ := wt_in (i := 1728) (by decide +kernel) rfl
theorem m_1729 : (Jvm.Cond.code ({ cls := "SlitDrumModel", name := "worked", desc := "(IJJ)I" } : Jvm.MethodName) prog_14_method_32_code (5 : Nat) (Option.some Jvm.ClassFile.FieldType.int)) ∈ wt_ := wt_in (i := 1729) (by decide +kernel) rfl
theorem m_1730 : (Jvm.Cond.methodLink "SlitDrumModel" (196 : Nat) ({ cls := "SlitDrumModel", name := "bounded", desc := "(J)I" } : Jvm.MethodName)) ∈ wt_ := wt_in (i := 1730) (by decide +kernel) rfl
theorem m_1731 : (Jvm.Cond.static ({ cls := "SlitDrumModel", name := "bounded", desc := "(J)I" } : Jvm.MethodName)) ∈ wt_ := wt_in (i := 1731) (by decide +kernel) rfl
theorem m_1732 : (Jvm.Cond.code ({ cls := "SlitDrumModel", name := "bounded", desc := "(J)I" } : Jvm.MethodName) prog_14_method_31_code (2 : Nat) (Option.some Jvm.ClassFile.FieldType.int)) ∈ wt_ := wt_in (i := 1732) (by decide +kernel) rfl
theorem m_1733 : (Jvm.Cond.constantLong "SlitDrumModel" (183 : Nat) (-1000000 : Int64)) ∈ wt_ := wt_in (i := 1733) (by decide +kernel) rfl
theorem m_1734 : (Jvm.Cond.constantLong "SlitDrumModel" (185 : Nat) (1000000 : Int64)) ∈ wt_ := wt_in (i := 1734) (by decide +kernel) rfl
theorem m_1735 : (Jvm.Cond.methodLink "SlitDrumModel" (187 : Nat) ({ cls := "java/lang/Math", name := "min", desc := "(JJ)J" } : Jvm.MethodName)) ∈ wt_ := wt_in (i := 1735) (by decide +kernel) rfl
theorem m_1736 : (Jvm.Cond.methodLink "SlitDrumModel" (193 : Nat) ({ cls := "java/lang/Math", name := "max", desc := "(JJ)J" } : Jvm.MethodName)) ∈ wt_ := wt_in (i := 1736) (by decide +kernel) rfl
theorem m_1737 : (Jvm.Cond.methodLink "SlitDrumModel" (288 : Nat) ({ cls := "java/lang/Math", name := "min", desc := "(II)I" } : Jvm.MethodName)) ∈ wt_ := wt_in (i := 1737) (by decide +kernel) rfl
theorem m_1738 : (Jvm.Cond.methodLink "SlitDrumModel" (290 : Nat) ({ cls := "java/lang/Math", name := "max", desc := "(II)I" } : Jvm.MethodName)) ∈ wt_ := wt_in (i := 1738) (by decide +kernel) rfl
theorem m_1739 : (Jvm.Cond.methodLink "SlitDrumModel" (295 : Nat) ({ cls := "SlitDrumModel", name := "round", desc := "(II)I" } : Jvm.MethodName)) ∈ wt_ := wt_in (i := 1739) (by decide +kernel) rfl
theorem m_1740 : (Jvm.Cond.static ({ cls := "SlitDrumModel", name := "round", desc := "(II)I" } : Jvm.MethodName)) ∈ wt_ := wt_in (i := 1740) (by decide +kernel) rfl
theorem m_1741 : (Jvm.Cond.code ({ cls := "SlitDrumModel", name := "round", desc := "(II)I" } : Jvm.MethodName) prog_14_method_3_code (2 : Nat) (Option.some Jvm.ClassFile.FieldType.int)) ∈ wt_ := wt_in (i := 1741) (by decide +kernel) rfl
theorem m_1742 : (Jvm.Cond.methodLink "SlitDrumModel" (301 : Nat) ({ cls := "SlitDrumModel", name := "putLog", desc := "()V" } : Jvm.MethodName)) ∈ wt_ := wt_in (i := 1742) (by decide +kernel) rfl
theorem m_1744 : (Jvm.Cond.instanceMethod ({ cls := "SlitDrumModel", name := "putLog", desc := "()V" } : Jvm.MethodName)) ∈ wt_ := wt_in (i := 1744) (by decide +kernel) rfl
theorem m_1745 : (Jvm.Cond.code ({ cls := "SlitDrumModel", name := "putLog", desc := "()V" } : Jvm.MethodName) prog_14_method_58_code (3 : Nat) (Option.none : Option Jvm.ClassFile.FieldType)) ∈ wt_ := wt_in (i := 1745) (by decide +kernel) rfl
theorem m_1746 : (Jvm.Cond.methodLink "SlitDrumLaw" (71 : Nat) ({ cls := "SlitDrumModel", name := "flash", desc := "(I)I" } : Jvm.MethodName)) ∈ wt_ := wt_in (i := 1746) (by decide +kernel) rfl
theorem m_1747 : (Jvm.Cond.instanceMethod ({ cls := "SlitDrumModel", name := "flash", desc := "(I)I" } : Jvm.MethodName)) ∈ wt_ := wt_in (i := 1747) (by decide +kernel) rfl
theorem m_1748 : (Jvm.Cond.selects "SlitDrumModel" ({ cls := "SlitDrumModel", name := "flash", desc := "(I)I" } : Jvm.MethodName) ({ cls := "SlitDrumModel", name := "flash", desc := "(I)I" } : Jvm.MethodName)) ∈ wt_ := wt_in (i := 1748) (by decide +kernel) rfl
theorem m_1749 : (Jvm.Cond.code ({ cls := "SlitDrumModel", name := "flash", desc := "(I)I" } : Jvm.MethodName) prog_14_method_68_code (3 : Nat) (Option.some Jvm.ClassFile.FieldType.int)) ∈ wt_ := wt_in (i := 1749) (by decide +kernel) rfl
theorem m_1750 : (Jvm.Cond.methodLink "SlitDrumLaw" (75 : Nat) ({ cls := "SlitDrumModel", name := "speed", desc := "(II)I" } : Jvm.MethodName)) ∈ wt_ := wt_in (i := 1750) (by decide +kernel) rfl
theorem m_1751 : (Jvm.Cond.instanceMethod ({ cls := "SlitDrumModel", name := "speed", desc := "(II)I" } : Jvm.MethodName)) ∈ wt_ := wt_in (i := 1751) (by decide +kernel) rfl
theorem m_1752 : (Jvm.Cond.selects "SlitDrumModel" ({ cls := "SlitDrumModel", name := "speed", desc := "(II)I" } : Jvm.MethodName) ({ cls := "SlitDrumModel", name := "speed", desc := "(II)I" } : Jvm.MethodName)) ∈ wt_ := wt_in (i := 1752) (by decide +kernel) rfl
theorem m_1753 : (Jvm.Cond.code ({ cls := "SlitDrumModel", name := "speed", desc := "(II)I" } : Jvm.MethodName) prog_14_method_69_code (4 : Nat) (Option.some Jvm.ClassFile.FieldType.int)) ∈ wt_ := wt_in (i := 1753) (by decide +kernel) rfl
theorem m_1754 : (Jvm.Cond.methodLink "SlitDrumLaw" (79 : Nat) ({ cls := "SlitDrumModel", name := "about", desc := "(I)I" } : Jvm.MethodName)) ∈ wt_ := wt_in (i := 1754) (by decide +kernel) rfl
theorem m_1755 : (Jvm.Cond.instanceMethod ({ cls := "SlitDrumModel", name := "about", desc := "(I)I" } : Jvm.MethodName)) ∈ wt_ := wt_in (i := 1755) (by decide +kernel) rfl
theorem m_1756 : (Jvm.Cond.selects "SlitDrumModel" ({ cls := "SlitDrumModel", name := "about", desc := "(I)I" } : Jvm.MethodName) ({ cls := "SlitDrumModel", name := "about", desc := "(I)I" } : Jvm.MethodName)) ∈ wt_ := wt_in (i := 1756) (by decide +kernel) rfl
theorem m_1757 : (Jvm.Cond.code ({ cls := "SlitDrumModel", name := "about", desc := "(I)I" } : Jvm.MethodName) prog_14_method_70_code (2 : Nat) (Option.some Jvm.ClassFile.FieldType.int)) ∈ wt_ := wt_in (i := 1757) (by decide +kernel) rfl
theorem m_1758 : (Jvm.Cond.methodLink "SlitDrumLaw" (83 : Nat) ({ cls := "SlitDrumModel", name := "push", desc := "(II)I" } : Jvm.MethodName)) ∈ wt_ := wt_in (i := 1758) (by decide +kernel) rfl
theorem m_1759 : (Jvm.Cond.instanceMethod ({ cls := "SlitDrumModel", name := "push", desc := "(II)I" } : Jvm.MethodName)) ∈ wt_ := wt_in (i := 1759) (by decide +kernel) rfl
theorem m_1760 : (Jvm.Cond.selects "SlitDrumModel" ({ cls := "SlitDrumModel", name := "push", desc := "(II)I" } : Jvm.MethodName) ({ cls := "SlitDrumModel", name := "push", desc := "(II)I" } : Jvm.MethodName)) ∈ wt_ := wt_in (i := 1760) (by decide +kernel) rfl
theorem m_1761 : (Jvm.Cond.code ({ cls := "SlitDrumModel", name := "push", desc := "(II)I" } : Jvm.MethodName) prog_14_method_72_code (3 : Nat) (Option.some Jvm.ClassFile.FieldType.int)) ∈ wt_ := wt_in (i := 1761) (by decide +kernel) rfl
theorem m_1762 : (Jvm.Cond.methodLink "SlitDrumModel" (325 : Nat) ({ cls := "SlitDrumModel", name := "pushNow", desc := "(II)V" } : Jvm.MethodName)) ∈ wt_ := wt_in (i := 1762) (by decide +kernel) rfl
theorem m_1764 : (Jvm.Cond.instanceMethod ({ cls := "SlitDrumModel", name := "pushNow", desc := "(II)V" } : Jvm.MethodName)) ∈ wt_ := wt_in (i := 1764) (by decide +kernel) rfl
theorem m_1765 : (Jvm.Cond.code ({ cls := "SlitDrumModel", name := "pushNow", desc := "(II)V" } : Jvm.MethodName) prog_14_method_71_code (3 : Nat) (Option.none : Option Jvm.ClassFile.FieldType)) ∈ wt_ := wt_in (i := 1765) (by decide +kernel) rfl
theorem m_1766 : (Jvm.Cond.methodLink "SlitDrumLaw" (87 : Nat) ({ cls := "SlitDrumModel", name := "puts", desc := "(II)I" } : Jvm.MethodName)) ∈ wt_ := wt_in (i := 1766) (by decide +kernel) rfl
theorem m_1767 : (Jvm.Cond.instanceMethod ({ cls := "SlitDrumModel", name := "puts", desc := "(II)I" } : Jvm.MethodName)) ∈ wt_ := wt_in (i := 1767) (by decide +kernel) rfl
theorem m_1768 : (Jvm.Cond.selects "SlitDrumModel" ({ cls := "SlitDrumModel", name := "puts", desc := "(II)I" } : Jvm.MethodName) ({ cls := "SlitDrumModel", name := "puts", desc := "(II)I" } : Jvm.MethodName)) ∈ wt_ := wt_in (i := 1768) (by decide +kernel) rfl
theorem m_1769 : (Jvm.Cond.code ({ cls := "SlitDrumModel", name := "puts", desc := "(II)I" } : Jvm.MethodName) prog_14_method_73_code (3 : Nat) (Option.some Jvm.ClassFile.FieldType.int)) ∈ wt_ := wt_in (i := 1769) (by decide +kernel) rfl
theorem m_1770 : (Jvm.Cond.methodLink "SlitDrumLaw" (91 : Nat) ({ cls := "SlitDrumModel", name := "oil", desc := "(I)I" } : Jvm.MethodName)) ∈ wt_ := wt_in (i := 1770) (by decide +kernel) rfl
theorem m_1771 : (Jvm.Cond.instanceMethod ({ cls := "SlitDrumModel", name := "oil", desc := "(I)I" } : Jvm.MethodName)) ∈ wt_ := wt_in (i := 1771) (by decide +kernel) rfl
theorem m_1772 : (Jvm.Cond.selects "SlitDrumModel" ({ cls := "SlitDrumModel", name := "oil", desc := "(I)I" } : Jvm.MethodName) ({ cls := "SlitDrumModel", name := "oil", desc := "(I)I" } : Jvm.MethodName)) ∈ wt_ := wt_in (i := 1772) (by decide +kernel) rfl
theorem m_1773 : (Jvm.Cond.code ({ cls := "SlitDrumModel", name := "oil", desc := "(I)I" } : Jvm.MethodName) prog_14_method_74_code (2 : Nat) (Option.some Jvm.ClassFile.FieldType.int)) ∈ wt_ := wt_in (i := 1773) (by decide +kernel) rfl
theorem m_1774 : (Jvm.Cond.methodLink "SlitDrumLaw" (95 : Nat) ({ cls := "SlitDrumModel", name := "give", desc := "(I)I" } : Jvm.MethodName)) ∈ wt_ := wt_in (i := 1774) (by decide +kernel) rfl
theorem m_1775 : (Jvm.Cond.instanceMethod ({ cls := "SlitDrumModel", name := "give", desc := "(I)I" } : Jvm.MethodName)) ∈ wt_ := wt_in (i := 1775) (by decide +kernel) rfl
theorem m_1776 : (Jvm.Cond.selects "SlitDrumModel" ({ cls := "SlitDrumModel", name := "give", desc := "(I)I" } : Jvm.MethodName) ({ cls := "SlitDrumModel", name := "give", desc := "(I)I" } : Jvm.MethodName)) ∈ wt_ := wt_in (i := 1776) (by decide +kernel) rfl
theorem m_1777 : (Jvm.Cond.code ({ cls := "SlitDrumModel", name := "give", desc := "(I)I" } : Jvm.MethodName) prog_14_method_75_code (2 : Nat) (Option.some Jvm.ClassFile.FieldType.int)) ∈ wt_ := wt_in (i := 1777) (by decide +kernel) rfl
theorem m_1778 : (Jvm.Cond.methodLink "SlitDrumLaw" (102 : Nat) ({ cls := "SlitDrumModel", name := "years", desc := "(IJ)I" } : Jvm.MethodName)) ∈ wt_ := wt_in (i := 1778) (by decide +kernel) rfl
theorem m_1779 : (Jvm.Cond.instanceMethod ({ cls := "SlitDrumModel", name := "years", desc := "(IJ)I" } : Jvm.MethodName)) ∈ wt_ := wt_in (i := 1779) (by decide +kernel) rfl
theorem m_1780 : (Jvm.Cond.selects "SlitDrumModel" ({ cls := "SlitDrumModel", name := "years", desc := "(IJ)I" } : Jvm.MethodName) ({ cls := "SlitDrumModel", name := "years", desc := "(IJ)I" } : Jvm.MethodName)) ∈ wt_ := wt_in (i := 1780) (by decide +kernel) rfl
theorem m_1781 : (Jvm.Cond.code ({ cls := "SlitDrumModel", name := "years", desc := "(IJ)I" } : Jvm.MethodName) prog_14_method_78_code (5 : Nat) (Option.some Jvm.ClassFile.FieldType.int)) ∈ wt_ := wt_in (i := 1781) (by decide +kernel) rfl
theorem m_1782 : (Jvm.Cond.methodLink "SlitDrumModel" (339 : Nat) ({ cls := "SlitDrumModel", name := "drawTick", desc := "()V" } : Jvm.MethodName)) ∈ wt_ := wt_in (i := 1782) (by decide +kernel) rfl
theorem m_1784 : (Jvm.Cond.instanceMethod ({ cls := "SlitDrumModel", name := "drawTick", desc := "()V" } : Jvm.MethodName)) ∈ wt_ := wt_in (i := 1784) (by decide +kernel) rfl
theorem m_1785 : (Jvm.Cond.code ({ cls := "SlitDrumModel", name := "drawTick", desc := "()V" } : Jvm.MethodName) prog_14_method_77_code (2 : Nat) (Option.none : Option Jvm.ClassFile.FieldType)) ∈ wt_ := wt_in (i := 1785) (by decide +kernel) rfl
theorem m_1786 : (Jvm.Cond.methodLink "SlitDrumModel" (336 : Nat) ({ cls := "SlitDrumModel", name := "draw", desc := "(I)I" } : Jvm.MethodName)) ∈ wt_ := wt_in (i := 1786) (by decide +kernel) rfl
theorem m_1788 : (Jvm.Cond.instanceMethod ({ cls := "SlitDrumModel", name := "draw", desc := "(I)I" } : Jvm.MethodName)) ∈ wt_ := wt_in (i := 1788) (by decide +kernel) rfl
theorem m_1789 : (Jvm.Cond.code ({ cls := "SlitDrumModel", name := "draw", desc := "(I)I" } : Jvm.MethodName) prog_14_method_76_code (2 : Nat) (Option.some Jvm.ClassFile.FieldType.int)) ∈ wt_ := wt_in (i := 1789) (by decide +kernel) rfl
theorem m_1790 : (Jvm.Cond.constantLong "SlitDrumModel" (332 : Nat) (6364136223846793005 : Int64)) ∈ wt_ := wt_in (i := 1790) (by decide +kernel) rfl
theorem m_1791 : (Jvm.Cond.constantLong "SlitDrumModel" (334 : Nat) (1442695040888963407 : Int64)) ∈ wt_ := wt_in (i := 1791) (by decide +kernel) rfl
theorem m_1792 : (Jvm.Cond.methodLink "SlitDrumLaw" (106 : Nat) ({ cls := "SlitDrumModel", name := "status", desc := "(I)I" } : Jvm.MethodName)) ∈ wt_ := wt_in (i := 1792) (by decide +kernel) rfl
theorem m_1793 : (Jvm.Cond.instanceMethod ({ cls := "SlitDrumModel", name := "status", desc := "(I)I" } : Jvm.MethodName)) ∈ wt_ := wt_in (i := 1793) (by decide +kernel) rfl
theorem m_1794 : (Jvm.Cond.selects "SlitDrumModel" ({ cls := "SlitDrumModel", name := "status", desc := "(I)I" } : Jvm.MethodName) ({ cls := "SlitDrumModel", name := "status", desc := "(I)I" } : Jvm.MethodName)) ∈ wt_ := wt_in (i := 1794) (by decide +kernel) rfl
theorem m_1795 : (Jvm.Cond.code ({ cls := "SlitDrumModel", name := "status", desc := "(I)I" } : Jvm.MethodName) prog_14_method_79_code (2 : Nat) (Option.some Jvm.ClassFile.FieldType.int)) ∈ wt_ := wt_in (i := 1795) (by decide +kernel) rfl
theorem m_1796 : (Jvm.Cond.methodLink "SlitDrumLaw" (110 : Nat) ({ cls := "SlitDrumModel", name := "undo", desc := "()I" } : Jvm.MethodName)) ∈ wt_ := wt_in (i := 1796) (by decide +kernel) rfl
theorem m_1797 : (Jvm.Cond.instanceMethod ({ cls := "SlitDrumModel", name := "undo", desc := "()I" } : Jvm.MethodName)) ∈ wt_ := wt_in (i := 1797) (by decide +kernel) rfl
theorem m_1798 : (Jvm.Cond.selects "SlitDrumModel" ({ cls := "SlitDrumModel", name := "undo", desc := "()I" } : Jvm.MethodName) ({ cls := "SlitDrumModel", name := "undo", desc := "()I" } : Jvm.MethodName)) ∈ wt_ := wt_in (i := 1798) (by decide +kernel) rfl
theorem m_1799 : (Jvm.Cond.code ({ cls := "SlitDrumModel", name := "undo", desc := "()I" } : Jvm.MethodName) prog_14_method_80_code (2 : Nat) (Option.some Jvm.ClassFile.FieldType.int)) ∈ wt_ := wt_in (i := 1799) (by decide +kernel) rfl
theorem m_1800 : (Jvm.Cond.methodLink "SlitDrumLaw" (114 : Nat) ({ cls := "SlitDrumModel", name := "log", desc := "(II)I" } : Jvm.MethodName)) ∈ wt_ := wt_in (i := 1800) (by decide +kernel) rfl
theorem m_1801 : (Jvm.Cond.instanceMethod ({ cls := "SlitDrumModel", name := "log", desc := "(II)I" } : Jvm.MethodName)) ∈ wt_ := wt_in (i := 1801) (by decide +kernel) rfl
theorem m_1802 : (Jvm.Cond.selects "SlitDrumModel" ({ cls := "SlitDrumModel", name := "log", desc := "(II)I" } : Jvm.MethodName) ({ cls := "SlitDrumModel", name := "log", desc := "(II)I" } : Jvm.MethodName)) ∈ wt_ := wt_in (i := 1802) (by decide +kernel) rfl
theorem m_1803 : (Jvm.Cond.code ({ cls := "SlitDrumModel", name := "log", desc := "(II)I" } : Jvm.MethodName) prog_14_method_81_code (3 : Nat) (Option.some Jvm.ClassFile.FieldType.int)) ∈ wt_ := wt_in (i := 1803) (by decide +kernel) rfl
theorem m_1804 : (Jvm.Cond.methodLink "SlitDrumLaw" (118 : Nat) ({ cls := "SlitDrumModel", name := "at", desc := "(II)I" } : Jvm.MethodName)) ∈ wt_ := wt_in (i := 1804) (by decide +kernel) rfl
theorem m_1805 : (Jvm.Cond.instanceMethod ({ cls := "SlitDrumModel", name := "at", desc := "(II)I" } : Jvm.MethodName)) ∈ wt_ := wt_in (i := 1805) (by decide +kernel) rfl
theorem m_1806 : (Jvm.Cond.selects "SlitDrumModel" ({ cls := "SlitDrumModel", name := "at", desc := "(II)I" } : Jvm.MethodName) ({ cls := "SlitDrumModel", name := "at", desc := "(II)I" } : Jvm.MethodName)) ∈ wt_ := wt_in (i := 1806) (by decide +kernel) rfl
theorem m_1807 : (Jvm.Cond.code ({ cls := "SlitDrumModel", name := "at", desc := "(II)I" } : Jvm.MethodName) prog_14_method_82_code (3 : Nat) (Option.some Jvm.ClassFile.FieldType.int)) ∈ wt_ := wt_in (i := 1807) (by decide +kernel) rfl
theorem m_1808 : (Jvm.Cond.methodLink "SlitDrumModel" (342 : Nat) ({ cls := "SlitDrumModel", name := "placeBehind", desc := "(II)I" } : Jvm.MethodName)) ∈ wt_ := wt_in (i := 1808) (by decide +kernel) rfl
theorem m_1810 : (Jvm.Cond.instanceMethod ({ cls := "SlitDrumModel", name := "placeBehind", desc := "(II)I" } : Jvm.MethodName)) ∈ wt_ := wt_in (i := 1810) (by decide +kernel) rfl
theorem m_1811 : (Jvm.Cond.code ({ cls := "SlitDrumModel", name := "placeBehind", desc := "(II)I" } : Jvm.MethodName) prog_14_method_56_code (5 : Nat) (Option.some Jvm.ClassFile.FieldType.int)) ∈ wt_ := wt_in (i := 1811) (by decide +kernel) rfl
theorem m_1812 : (Jvm.Cond.methodLink "SlitDrumLaw" (122 : Nat) ({ cls := "SlitDrumModel", name := "seems", desc := "(II)I" } : Jvm.MethodName)) ∈ wt_ := wt_in (i := 1812) (by decide +kernel) rfl
theorem m_1813 : (Jvm.Cond.instanceMethod ({ cls := "SlitDrumModel", name := "seems", desc := "(II)I" } : Jvm.MethodName)) ∈ wt_ := wt_in (i := 1813) (by decide +kernel) rfl
theorem m_1814 : (Jvm.Cond.selects "SlitDrumModel" ({ cls := "SlitDrumModel", name := "seems", desc := "(II)I" } : Jvm.MethodName) ({ cls := "SlitDrumModel", name := "seems", desc := "(II)I" } : Jvm.MethodName)) ∈ wt_ := wt_in (i := 1814) (by decide +kernel) rfl
theorem m_1815 : (Jvm.Cond.code ({ cls := "SlitDrumModel", name := "seems", desc := "(II)I" } : Jvm.MethodName) prog_14_method_83_code (5 : Nat) (Option.some Jvm.ClassFile.FieldType.int)) ∈ wt_ := wt_in (i := 1815) (by decide +kernel) rfl
theorem m_1816 : (Jvm.Cond.constant "SlitDrumModel" (345 : Nat) (-1000000 : Int32)) ∈ wt_ := wt_in (i := 1816) (by decide +kernel) rfl
theorem m_1817 : (Jvm.Cond.methodLink "SlitDrumLaw" (126 : Nat) ({ cls := "SlitDrumModel", name := "stands", desc := "(II)I" } : Jvm.MethodName)) ∈ wt_ := wt_in (i := 1817) (by decide +kernel) rfl
theorem m_1818 : (Jvm.Cond.instanceMethod ({ cls := "SlitDrumModel", name := "stands", desc := "(II)I" } : Jvm.MethodName)) ∈ wt_ := wt_in (i := 1818) (by decide +kernel) rfl
theorem m_1819 : (Jvm.Cond.selects "SlitDrumModel" ({ cls := "SlitDrumModel", name := "stands", desc := "(II)I" } : Jvm.MethodName) ({ cls := "SlitDrumModel", name := "stands", desc := "(II)I" } : Jvm.MethodName)) ∈ wt_ := wt_in (i := 1819) (by decide +kernel) rfl
theorem m_1820 : (Jvm.Cond.code ({ cls := "SlitDrumModel", name := "stands", desc := "(II)I" } : Jvm.MethodName) prog_14_method_86_code (5 : Nat) (Option.some Jvm.ClassFile.FieldType.int)) ∈ wt_ := wt_in (i := 1820) (by decide +kernel) rfl
theorem m_1821 : (Jvm.Cond.methodLink "SlitDrumModel" (346 : Nat) ({ cls := "SlitDrumModel", name := "layTrail", desc := "(I)V" } : Jvm.MethodName)) ∈ wt_ := wt_in (i := 1821) (by decide +kernel) rfl
theorem m_1823 : (Jvm.Cond.instanceMethod ({ cls := "SlitDrumModel", name := "layTrail", desc := "(I)V" } : Jvm.MethodName)) ∈ wt_ := wt_in (i := 1823) (by decide +kernel) rfl
theorem m_1824 : (Jvm.Cond.code ({ cls := "SlitDrumModel", name := "layTrail", desc := "(I)V" } : Jvm.MethodName) prog_14_method_84_code (3 : Nat) (Option.none : Option Jvm.ClassFile.FieldType)) ∈ wt_ := wt_in (i := 1824) (by decide +kernel) rfl
theorem m_1825 : (Jvm.Cond.methodLink "SlitDrumModel" (349 : Nat) ({ cls := "SlitDrumModel", name := "standsBy", desc := "(I)Z" } : Jvm.MethodName)) ∈ wt_ := wt_in (i := 1825) (by decide +kernel) rfl
theorem m_1827 : (Jvm.Cond.instanceMethod ({ cls := "SlitDrumModel", name := "standsBy", desc := "(I)Z" } : Jvm.MethodName)) ∈ wt_ := wt_in (i := 1827) (by decide +kernel) rfl
theorem m_1828 : (Jvm.Cond.code ({ cls := "SlitDrumModel", name := "standsBy", desc := "(I)Z" } : Jvm.MethodName) prog_14_method_85_code (3 : Nat) (Option.some Jvm.ClassFile.FieldType.boolean)) ∈ wt_ := wt_in (i := 1828) (by decide +kernel) rfl
theorem m_1829 : (Jvm.Cond.methodLink "SlitDrumLaw" (130 : Nat) ({ cls := "SlitDrumModel", name := "together", desc := "()I" } : Jvm.MethodName)) ∈ wt_ := wt_in (i := 1829) (by decide +kernel) rfl
theorem m_1830 : (Jvm.Cond.instanceMethod ({ cls := "SlitDrumModel", name := "together", desc := "()I" } : Jvm.MethodName)) ∈ wt_ := wt_in (i := 1830) (by decide +kernel) rfl
theorem m_1831 : (Jvm.Cond.selects "SlitDrumModel" ({ cls := "SlitDrumModel", name := "together", desc := "()I" } : Jvm.MethodName) ({ cls := "SlitDrumModel", name := "together", desc := "()I" } : Jvm.MethodName)) ∈ wt_ := wt_in (i := 1831) (by decide +kernel) rfl
theorem m_1832 : (Jvm.Cond.code ({ cls := "SlitDrumModel", name := "together", desc := "()I" } : Jvm.MethodName) prog_14_method_87_code (3 : Nat) (Option.some Jvm.ClassFile.FieldType.int)) ∈ wt_ := wt_in (i := 1832) (by decide +kernel) rfl
theorem m_1833 : (Jvm.Cond.methodLink "SlitDrumLaw" (134 : Nat) ({ cls := "SlitDrumModel", name := "again", desc := "(I)I" } : Jvm.MethodName)) ∈ wt_ := wt_in (i := 1833) (by decide +kernel) rfl
theorem m_1834 : (Jvm.Cond.instanceMethod ({ cls := "SlitDrumModel", name := "again", desc := "(I)I" } : Jvm.MethodName)) ∈ wt_ := wt_in (i := 1834) (by decide +kernel) rfl
theorem m_1835 : (Jvm.Cond.selects "SlitDrumModel" ({ cls := "SlitDrumModel", name := "again", desc := "(I)I" } : Jvm.MethodName) ({ cls := "SlitDrumModel", name := "again", desc := "(I)I" } : Jvm.MethodName)) ∈ wt_ := wt_in (i := 1835) (by decide +kernel) rfl
theorem m_1836 : (Jvm.Cond.code ({ cls := "SlitDrumModel", name := "again", desc := "(I)I" } : Jvm.MethodName) prog_14_method_91_code (4 : Nat) (Option.some Jvm.ClassFile.FieldType.int)) ∈ wt_ := wt_in (i := 1836) (by decide +kernel) rfl
theorem m_1837 : (Jvm.Cond.methodLink "SlitDrumModel" (352 : Nat) ({ cls := "SlitDrumModel", name := "startSpots", desc := "()V" } : Jvm.MethodName)) ∈ wt_ := wt_in (i := 1837) (by decide +kernel) rfl
theorem m_1839 : (Jvm.Cond.instanceMethod ({ cls := "SlitDrumModel", name := "startSpots", desc := "()V" } : Jvm.MethodName)) ∈ wt_ := wt_in (i := 1839) (by decide +kernel) rfl
theorem m_1840 : (Jvm.Cond.code ({ cls := "SlitDrumModel", name := "startSpots", desc := "()V" } : Jvm.MethodName) prog_14_method_88_code (2 : Nat) (Option.none : Option Jvm.ClassFile.FieldType)) ∈ wt_ := wt_in (i := 1840) (by decide +kernel) rfl
theorem m_1841 : (Jvm.Cond.methodLink "SlitDrumModel" (355 : Nat) ({ cls := "SlitDrumModel", name := "goSpots", desc := "(I)V" } : Jvm.MethodName)) ∈ wt_ := wt_in (i := 1841) (by decide +kernel) rfl
theorem m_1843 : (Jvm.Cond.instanceMethod ({ cls := "SlitDrumModel", name := "goSpots", desc := "(I)V" } : Jvm.MethodName)) ∈ wt_ := wt_in (i := 1843) (by decide +kernel) rfl
theorem m_1844 : (Jvm.Cond.code ({ cls := "SlitDrumModel", name := "goSpots", desc := "(I)V" } : Jvm.MethodName) prog_14_method_89_code (3 : Nat) (Option.none : Option Jvm.ClassFile.FieldType)) ∈ wt_ := wt_in (i := 1844) (by decide +kernel) rfl
theorem m_1845 : (Jvm.Cond.methodLink "SlitDrumModel" (358 : Nat) ({ cls := "SlitDrumModel", name := "areHome", desc := "(I)Z" } : Jvm.MethodName)) ∈ wt_ := wt_in (i := 1845) (by decide +kernel) rfl
theorem m_1847 : (Jvm.Cond.instanceMethod ({ cls := "SlitDrumModel", name := "areHome", desc := "(I)Z" } : Jvm.MethodName)) ∈ wt_ := wt_in (i := 1847) (by decide +kernel) rfl
theorem m_1848 : (Jvm.Cond.code ({ cls := "SlitDrumModel", name := "areHome", desc := "(I)Z" } : Jvm.MethodName) prog_14_method_90_code (4 : Nat) (Option.some Jvm.ClassFile.FieldType.boolean)) ∈ wt_ := wt_in (i := 1848) (by decide +kernel) rfl
theorem m_1849 : (Jvm.Cond.methodLink "SlitDrumLaw" (138 : Nat) ({ cls := "SlitDrumModel", name := "meets", desc := "(II)I" } : Jvm.MethodName)) ∈ wt_ := wt_in (i := 1849) (by decide +kernel) rfl
theorem m_1850 : (Jvm.Cond.instanceMethod ({ cls := "SlitDrumModel", name := "meets", desc := "(II)I" } : Jvm.MethodName)) ∈ wt_ := wt_in (i := 1850) (by decide +kernel) rfl
theorem m_1851 : (Jvm.Cond.selects "SlitDrumModel" ({ cls := "SlitDrumModel", name := "meets", desc := "(II)I" } : Jvm.MethodName) ({ cls := "SlitDrumModel", name := "meets", desc := "(II)I" } : Jvm.MethodName)) ∈ wt_ := wt_in (i := 1851) (by decide +kernel) rfl
theorem m_1852 : (Jvm.Cond.code ({ cls := "SlitDrumModel", name := "meets", desc := "(II)I" } : Jvm.MethodName) prog_14_method_93_code (4 : Nat) (Option.some Jvm.ClassFile.FieldType.int)) ∈ wt_ := wt_in (i := 1852) (by decide +kernel) rfl
theorem m_1853 : (Jvm.Cond.methodLink "SlitDrumModel" (361 : Nat) ({ cls := "SlitDrumModel", name := "spotShows", desc := "(I)I" } : Jvm.MethodName)) ∈ wt_ := wt_in (i := 1853) (by decide +kernel) rfl
theorem m_1855 : (Jvm.Cond.instanceMethod ({ cls := "SlitDrumModel", name := "spotShows", desc := "(I)I" } : Jvm.MethodName)) ∈ wt_ := wt_in (i := 1855) (by decide +kernel) rfl
theorem m_1856 : (Jvm.Cond.code ({ cls := "SlitDrumModel", name := "spotShows", desc := "(I)I" } : Jvm.MethodName) prog_14_method_92_code (2 : Nat) (Option.some Jvm.ClassFile.FieldType.int)) ∈ wt_ := wt_in (i := 1856) (by decide +kernel) rfl
theorem m_1857 : (Jvm.Cond.methodLink "SlitDrumLaw" (142 : Nat) ({ cls := "SlitDrumModel", name := "reads", desc := "(I)I" } : Jvm.MethodName)) ∈ wt_ := wt_in (i := 1857) (by decide +kernel) rfl
theorem m_1858 : (Jvm.Cond.instanceMethod ({ cls := "SlitDrumModel", name := "reads", desc := "(I)I" } : Jvm.MethodName)) ∈ wt_ := wt_in (i := 1858) (by decide +kernel) rfl
theorem m_1859 : (Jvm.Cond.selects "SlitDrumModel" ({ cls := "SlitDrumModel", name := "reads", desc := "(I)I" } : Jvm.MethodName) ({ cls := "SlitDrumModel", name := "reads", desc := "(I)I" } : Jvm.MethodName)) ∈ wt_ := wt_in (i := 1859) (by decide +kernel) rfl
theorem m_1860 : (Jvm.Cond.code ({ cls := "SlitDrumModel", name := "reads", desc := "(I)I" } : Jvm.MethodName) prog_14_method_94_code (5 : Nat) (Option.some Jvm.ClassFile.FieldType.int)) ∈ wt_ := wt_in (i := 1860) (by decide +kernel) rfl
theorem m_1861 : (Jvm.Cond.methodLink "SlitDrumLaw" (146 : Nat) ({ cls := "SlitDrumModel", name := "period", desc := "(I)I" } : Jvm.MethodName)) ∈ wt_ := wt_in (i := 1861) (by decide +kernel) rfl
theorem m_1862 : (Jvm.Cond.instanceMethod ({ cls := "SlitDrumModel", name := "period", desc := "(I)I" } : Jvm.MethodName)) ∈ wt_ := wt_in (i := 1862) (by decide +kernel) rfl
theorem m_1863 : (Jvm.Cond.selects "SlitDrumModel" ({ cls := "SlitDrumModel", name := "period", desc := "(I)I" } : Jvm.MethodName) ({ cls := "SlitDrumModel", name := "period", desc := "(I)I" } : Jvm.MethodName)) ∈ wt_ := wt_in (i := 1863) (by decide +kernel) rfl
theorem m_1864 : (Jvm.Cond.code ({ cls := "SlitDrumModel", name := "period", desc := "(I)I" } : Jvm.MethodName) prog_14_method_98_code (3 : Nat) (Option.some Jvm.ClassFile.FieldType.int)) ∈ wt_ := wt_in (i := 1864) (by decide +kernel) rfl
theorem m_1865 : (Jvm.Cond.methodLink "SlitDrumModel" (368 : Nat) ({ cls := "SlitDrumModel", name := "isAlike", desc := "(IIZI)Z" } : Jvm.MethodName)) ∈ wt_ := wt_in (i := 1865) (by decide +kernel) rfl
theorem m_1867 : (Jvm.Cond.instanceMethod ({ cls := "SlitDrumModel", name := "isAlike", desc := "(IIZI)Z" } : Jvm.MethodName)) ∈ wt_ := wt_in (i := 1867) (by decide +kernel) rfl
theorem m_1868 : (Jvm.Cond.code ({ cls := "SlitDrumModel", name := "isAlike", desc := "(IIZI)Z" } : Jvm.MethodName) prog_14_method_96_code (6 : Nat) (Option.some Jvm.ClassFile.FieldType.boolean)) ∈ wt_ := wt_in (i := 1868) (by decide +kernel) rfl
theorem m_1869 : (Jvm.Cond.methodLink "SlitDrumModel" (364 : Nat) ({ cls := "SlitDrumModel", name := "turned", desc := "(IIIZ)I" } : Jvm.MethodName)) ∈ wt_ := wt_in (i := 1869) (by decide +kernel) rfl
theorem m_1871 : (Jvm.Cond.instanceMethod ({ cls := "SlitDrumModel", name := "turned", desc := "(IIIZ)I" } : Jvm.MethodName)) ∈ wt_ := wt_in (i := 1871) (by decide +kernel) rfl
theorem m_1872 : (Jvm.Cond.code ({ cls := "SlitDrumModel", name := "turned", desc := "(IIIZ)I" } : Jvm.MethodName) prog_14_method_95_code (7 : Nat) (Option.some Jvm.ClassFile.FieldType.int)) ∈ wt_ := wt_in (i := 1872) (by decide +kernel) rfl
theorem m_1873 : (Jvm.Cond.methodLink "SlitDrumLaw" (150 : Nat) ({ cls := "SlitDrumModel", name := "least", desc := "(I)I" } : Jvm.MethodName)) ∈ wt_ := wt_in (i := 1873) (by decide +kernel) rfl
theorem m_1874 : (Jvm.Cond.instanceMethod ({ cls := "SlitDrumModel", name := "least", desc := "(I)I" } : Jvm.MethodName)) ∈ wt_ := wt_in (i := 1874) (by decide +kernel) rfl
theorem m_1875 : (Jvm.Cond.selects "SlitDrumModel" ({ cls := "SlitDrumModel", name := "least", desc := "(I)I" } : Jvm.MethodName) ({ cls := "SlitDrumModel", name := "least", desc := "(I)I" } : Jvm.MethodName)) ∈ wt_ := wt_in (i := 1875) (by decide +kernel) rfl
theorem m_1876 : (Jvm.Cond.code ({ cls := "SlitDrumModel", name := "least", desc := "(I)I" } : Jvm.MethodName) prog_14_method_100_code (4 : Nat) (Option.some Jvm.ClassFile.FieldType.int)) ∈ wt_ := wt_in (i := 1876) (by decide +kernel) rfl
theorem m_1877 : (Jvm.Cond.methodLink "SlitDrumModel" (372 : Nat) ({ cls := "SlitDrumModel", name := "isAhead", desc := "(III)Z" } : Jvm.MethodName)) ∈ wt_ := wt_in (i := 1877) (by decide +kernel) rfl
theorem m_1879 : (Jvm.Cond.instanceMethod ({ cls := "SlitDrumModel", name := "isAhead", desc := "(III)Z" } : Jvm.MethodName)) ∈ wt_ := wt_in (i := 1879) (by decide +kernel) rfl
theorem m_1880 : (Jvm.Cond.code ({ cls := "SlitDrumModel", name := "isAhead", desc := "(III)Z" } : Jvm.MethodName) prog_14_method_99_code (7 : Nat) (Option.some Jvm.ClassFile.FieldType.boolean)) ∈ wt_ := wt_in (i := 1880) (by decide +kernel) rfl
theorem m_1881 : (Jvm.Cond.methodLink "SlitDrumLaw" (155 : Nat) ({ cls := "SlitDrumModel", name := "alike", desc := "(IIZ)I" } : Jvm.MethodName)) ∈ wt_ := wt_in (i := 1881) (by decide +kernel) rfl
theorem m_1882 : (Jvm.Cond.instanceMethod ({ cls := "SlitDrumModel", name := "alike", desc := "(IIZ)I" } : Jvm.MethodName)) ∈ wt_ := wt_in (i := 1882) (by decide +kernel) rfl
theorem m_1883 : (Jvm.Cond.selects "SlitDrumModel" ({ cls := "SlitDrumModel", name := "alike", desc := "(IIZ)I" } : Jvm.MethodName) ({ cls := "SlitDrumModel", name := "alike", desc := "(IIZ)I" } : Jvm.MethodName)) ∈ wt_ := wt_in (i := 1883) (by decide +kernel) rfl
theorem m_1884 : (Jvm.Cond.code ({ cls := "SlitDrumModel", name := "alike", desc := "(IIZ)I" } : Jvm.MethodName) prog_14_method_101_code (4 : Nat) (Option.some Jvm.ClassFile.FieldType.int)) ∈ wt_ := wt_in (i := 1884) (by decide +kernel) rfl
theorem m_1885 : (Jvm.Cond.methodLink "SlitDrumModel" (375 : Nat) ({ cls := "SlitDrumModel", name := "alikeBy", desc := "(IIZ)I" } : Jvm.MethodName)) ∈ wt_ := wt_in (i := 1885) (by decide +kernel) rfl
theorem m_1887 : (Jvm.Cond.instanceMethod ({ cls := "SlitDrumModel", name := "alikeBy", desc := "(IIZ)I" } : Jvm.MethodName)) ∈ wt_ := wt_in (i := 1887) (by decide +kernel) rfl
theorem m_1888 : (Jvm.Cond.code ({ cls := "SlitDrumModel", name := "alikeBy", desc := "(IIZ)I" } : Jvm.MethodName) prog_14_method_97_code (5 : Nat) (Option.some Jvm.ClassFile.FieldType.int)) ∈ wt_ := wt_in (i := 1888) (by decide +kernel) rfl
theorem m_1889 : (Jvm.Cond.methodLink "SlitDrumLaw" (159 : Nat) ({ cls := "SlitDrumModel", name := "mirror", desc := "(I)I" } : Jvm.MethodName)) ∈ wt_ := wt_in (i := 1889) (by decide +kernel) rfl
theorem m_1890 : (Jvm.Cond.instanceMethod ({ cls := "SlitDrumModel", name := "mirror", desc := "(I)I" } : Jvm.MethodName)) ∈ wt_ := wt_in (i := 1890) (by decide +kernel) rfl
theorem m_1891 : (Jvm.Cond.selects "SlitDrumModel" ({ cls := "SlitDrumModel", name := "mirror", desc := "(I)I" } : Jvm.MethodName) ({ cls := "SlitDrumModel", name := "mirror", desc := "(I)I" } : Jvm.MethodName)) ∈ wt_ := wt_in (i := 1891) (by decide +kernel) rfl
theorem m_1892 : (Jvm.Cond.code ({ cls := "SlitDrumModel", name := "mirror", desc := "(I)I" } : Jvm.MethodName) prog_14_method_102_code (2 : Nat) (Option.some Jvm.ClassFile.FieldType.int)) ∈ wt_ := wt_in (i := 1892) (by decide +kernel) rfl
theorem m_1893 : (Jvm.Cond.methodLink "SlitDrumLaw" (163 : Nat) ({ cls := "SlitDrumModel", name := "rows", desc := "(II)I" } : Jvm.MethodName)) ∈ wt_ := wt_in (i := 1893) (by decide +kernel) rfl
theorem m_1894 : (Jvm.Cond.instanceMethod ({ cls := "SlitDrumModel", name := "rows", desc := "(II)I" } : Jvm.MethodName)) ∈ wt_ := wt_in (i := 1894) (by decide +kernel) rfl
theorem m_1895 : (Jvm.Cond.selects "SlitDrumModel" ({ cls := "SlitDrumModel", name := "rows", desc := "(II)I" } : Jvm.MethodName) ({ cls := "SlitDrumModel", name := "rows", desc := "(II)I" } : Jvm.MethodName)) ∈ wt_ := wt_in (i := 1895) (by decide +kernel) rfl
theorem m_1896 : (Jvm.Cond.code ({ cls := "SlitDrumModel", name := "rows", desc := "(II)I" } : Jvm.MethodName) prog_14_method_104_code (7 : Nat) (Option.some Jvm.ClassFile.FieldType.int)) ∈ wt_ := wt_in (i := 1896) (by decide +kernel) rfl
theorem m_1897 : (Jvm.Cond.methodLink "SlitDrumModel" (379 : Nat) ({ cls := "SlitDrumModel", name := "areRowsAlike", desc := "(IIII)Z" } : Jvm.MethodName)) ∈ wt_ := wt_in (i := 1897) (by decide +kernel) rfl
theorem m_1899 : (Jvm.Cond.instanceMethod ({ cls := "SlitDrumModel", name := "areRowsAlike", desc := "(IIII)Z" } : Jvm.MethodName)) ∈ wt_ := wt_in (i := 1899) (by decide +kernel) rfl
theorem m_1900 : (Jvm.Cond.code ({ cls := "SlitDrumModel", name := "areRowsAlike", desc := "(IIII)Z" } : Jvm.MethodName) prog_14_method_103_code (6 : Nat) (Option.some Jvm.ClassFile.FieldType.boolean)) ∈ wt_ := wt_in (i := 1900) (by decide +kernel) rfl
theorem m_1901 : (Jvm.Cond.methodLink "SlitDrumLaw" (167 : Nat) ({ cls := "SlitDrumModel", name := "kinds", desc := "(IIZ)I" } : Jvm.MethodName)) ∈ wt_ := wt_in (i := 1901) (by decide +kernel) rfl
theorem m_1902 : (Jvm.Cond.instanceMethod ({ cls := "SlitDrumModel", name := "kinds", desc := "(IIZ)I" } : Jvm.MethodName)) ∈ wt_ := wt_in (i := 1902) (by decide +kernel) rfl
theorem m_1903 : (Jvm.Cond.selects "SlitDrumModel" ({ cls := "SlitDrumModel", name := "kinds", desc := "(IIZ)I" } : Jvm.MethodName) ({ cls := "SlitDrumModel", name := "kinds", desc := "(IIZ)I" } : Jvm.MethodName)) ∈ wt_ := wt_in (i := 1903) (by decide +kernel) rfl
theorem m_1904 : (Jvm.Cond.code ({ cls := "SlitDrumModel", name := "kinds", desc := "(IIZ)I" } : Jvm.MethodName) prog_14_method_107_code (7 : Nat) (Option.some Jvm.ClassFile.FieldType.int)) ∈ wt_ := wt_in (i := 1904) (by decide +kernel) rfl
theorem m_1905 : (Jvm.Cond.methodLink "SlitDrumModel" (383 : Nat) ({ cls := "SlitDrumModel", name := "commonOf", desc := "(II)I" } : Jvm.MethodName)) ∈ wt_ := wt_in (i := 1905) (by decide +kernel) rfl
theorem m_1906 : (Jvm.Cond.static ({ cls := "SlitDrumModel", name := "commonOf", desc := "(II)I" } : Jvm.MethodName)) ∈ wt_ := wt_in (i := 1906) (by decide +kernel) rfl
theorem m_1907 : (Jvm.Cond.code ({ cls := "SlitDrumModel", name := "commonOf", desc := "(II)I" } : Jvm.MethodName) prog_14_method_105_code (2 : Nat) (Option.some Jvm.ClassFile.FieldType.int)) ∈ wt_ := wt_in (i := 1907) (by decide +kernel) rfl
theorem m_1908 : (Jvm.Cond.methodLink "SlitDrumModel" (386 : Nat) ({ cls := "SlitDrumModel", name := "power", desc := "(II)J" } : Jvm.MethodName)) ∈ wt_ := wt_in (i := 1908) (by decide +kernel) rfl
theorem m_1909 : (Jvm.Cond.static ({ cls := "SlitDrumModel", name := "power", desc := "(II)J" } : Jvm.MethodName)) ∈ wt_ := wt_in (i := 1909) (by decide +kernel) rfl
theorem m_1910 : (Jvm.Cond.code ({ cls := "SlitDrumModel", name := "power", desc := "(II)J" } : Jvm.MethodName) prog_14_method_106_code (5 : Nat) (Option.some Jvm.ClassFile.FieldType.long)) ∈ wt_ := wt_in (i := 1910) (by decide +kernel) rfl
theorem m_1911 : (Jvm.Cond.methodLink "SlitDrumLaw" (171 : Nat) ({ cls := "SlitDrumModel", name := "noted", desc := "(IIZ)I" } : Jvm.MethodName)) ∈ wt_ := wt_in (i := 1911) (by decide +kernel) rfl
theorem m_1912 : (Jvm.Cond.instanceMethod ({ cls := "SlitDrumModel", name := "noted", desc := "(IIZ)I" } : Jvm.MethodName)) ∈ wt_ := wt_in (i := 1912) (by decide +kernel) rfl
theorem m_1913 : (Jvm.Cond.selects "SlitDrumModel" ({ cls := "SlitDrumModel", name := "noted", desc := "(IIZ)I" } : Jvm.MethodName) ({ cls := "SlitDrumModel", name := "noted", desc := "(IIZ)I" } : Jvm.MethodName)) ∈ wt_ := wt_in (i := 1913) (by decide +kernel) rfl
theorem m_1914 : (Jvm.Cond.code ({ cls := "SlitDrumModel", name := "noted", desc := "(IIZ)I" } : Jvm.MethodName) prog_14_method_108_code (4 : Nat) (Option.some Jvm.ClassFile.FieldType.int)) ∈ wt_ := wt_in (i := 1914) (by decide +kernel) rfl
theorem m_1915 : (Jvm.Cond.methodLink "SlitDrumLaw" (175 : Nat) ({ cls := "SlitDrumModel", name := "fits", desc := "(I)I" } : Jvm.MethodName)) ∈ wt_ := wt_in (i := 1915) (by decide +kernel) rfl
theorem m_1916 : (Jvm.Cond.instanceMethod ({ cls := "SlitDrumModel", name := "fits", desc := "(I)I" } : Jvm.MethodName)) ∈ wt_ := wt_in (i := 1916) (by decide +kernel) rfl
theorem m_1917 : (Jvm.Cond.selects "SlitDrumModel" ({ cls := "SlitDrumModel", name := "fits", desc := "(I)I" } : Jvm.MethodName) ({ cls := "SlitDrumModel", name := "fits", desc := "(I)I" } : Jvm.MethodName)) ∈ wt_ := wt_in (i := 1917) (by decide +kernel) rfl
theorem m_1918 : (Jvm.Cond.code ({ cls := "SlitDrumModel", name := "fits", desc := "(I)I" } : Jvm.MethodName) prog_14_method_111_code (4 : Nat) (Option.some Jvm.ClassFile.FieldType.int)) ∈ wt_ := wt_in (i := 1918) (by decide +kernel) rfl
theorem m_1919 : (Jvm.Cond.methodLink "SlitDrumModel" (394 : Nat) ({ cls := "SlitDrumModel", name := "isFit", desc := "(III)Z" } : Jvm.MethodName)) ∈ wt_ := wt_in (i := 1919) (by decide +kernel) rfl
theorem m_1921 : (Jvm.Cond.instanceMethod ({ cls := "SlitDrumModel", name := "isFit", desc := "(III)Z" } : Jvm.MethodName)) ∈ wt_ := wt_in (i := 1921) (by decide +kernel) rfl
theorem m_1922 : (Jvm.Cond.code ({ cls := "SlitDrumModel", name := "isFit", desc := "(III)Z" } : Jvm.MethodName) prog_14_method_110_code (5 : Nat) (Option.some Jvm.ClassFile.FieldType.boolean)) ∈ wt_ := wt_in (i := 1922) (by decide +kernel) rfl
theorem m_1923 : (Jvm.Cond.methodLink "SlitDrumModel" (390 : Nat) ({ cls := "SlitDrumModel", name := "shownBy", desc := "(IIII)I" } : Jvm.MethodName)) ∈ wt_ := wt_in (i := 1923) (by decide +kernel) rfl
theorem m_1925 : (Jvm.Cond.instanceMethod ({ cls := "SlitDrumModel", name := "shownBy", desc := "(IIII)I" } : Jvm.MethodName)) ∈ wt_ := wt_in (i := 1925) (by decide +kernel) rfl
theorem m_1926 : (Jvm.Cond.code ({ cls := "SlitDrumModel", name := "shownBy", desc := "(IIII)I" } : Jvm.MethodName) prog_14_method_109_code (5 : Nat) (Option.some Jvm.ClassFile.FieldType.int)) ∈ wt_ := wt_in (i := 1926) (by decide +kernel) rfl
theorem m_1927 : (Jvm.Cond.methodLink "SlitDrumLaw" (179 : Nat) ({ cls := "SlitDrumModel", name := "ask", desc := "()I" } : Jvm.MethodName)) ∈ wt_ := wt_in (i := 1927) (by decide +kernel) rfl
theorem m_1928 : (Jvm.Cond.instanceMethod ({ cls := "SlitDrumModel", name := "ask", desc := "()I" } : Jvm.MethodName)) ∈ wt_ := wt_in (i := 1928) (by decide +kernel) rfl
theorem m_1929 : (Jvm.Cond.selects "SlitDrumModel" ({ cls := "SlitDrumModel", name := "ask", desc := "()I" } : Jvm.MethodName) ({ cls := "SlitDrumModel", name := "ask", desc := "()I" } : Jvm.MethodName)) ∈ wt_ := wt_in (i := 1929) (by decide +kernel) rfl
theorem m_1930 : (Jvm.Cond.code ({ cls := "SlitDrumModel", name := "ask", desc := "()I" } : Jvm.MethodName) prog_14_method_112_code (6 : Nat) (Option.some Jvm.ClassFile.FieldType.int)) ∈ wt_ := wt_in (i := 1930) (by decide +kernel) rfl
theorem m_1931 : (Jvm.Cond.methodLink "SlitDrumModel" (397 : Nat) ({ cls := "SlitDrumModel", name := "fits", desc := "(I)I" } : Jvm.MethodName)) ∈ wt_ := wt_in (i := 1931) (by decide +kernel) rfl
theorem m_1932 : (Jvm.Cond.methodLink "SlitDrumLaw" (184 : Nat) ({ cls := "SlitDrumModel", name := "game", desc := "(IIII)I" } : Jvm.MethodName)) ∈ wt_ := wt_in (i := 1932) (by decide +kernel) rfl
theorem m_1933 : (Jvm.Cond.instanceMethod ({ cls := "SlitDrumModel", name := "game", desc := "(IIII)I" } : Jvm.MethodName)) ∈ wt_ := wt_in (i := 1933) (by decide +kernel) rfl
theorem m_1934 : (Jvm.Cond.selects "SlitDrumModel" ({ cls := "SlitDrumModel", name := "game", desc := "(IIII)I" } : Jvm.MethodName) ({ cls := "SlitDrumModel", name := "game", desc := "(IIII)I" } : Jvm.MethodName)) ∈ wt_ := wt_in (i := 1934) (by decide +kernel) rfl
theorem m_1935 : (Jvm.Cond.code ({ cls := "SlitDrumModel", name := "game", desc := "(IIII)I" } : Jvm.MethodName) prog_14_method_114_code (5 : Nat) (Option.some Jvm.ClassFile.FieldType.int)) ∈ wt_ := wt_in (i := 1935) (by decide +kernel) rfl
theorem m_1936 : (Jvm.Cond.methodLink "SlitDrumModel" (406 : Nat) ({ cls := "SlitDrumModel", name := "gameOf", desc := "(IIII)I" } : Jvm.MethodName)) ∈ wt_ := wt_in (i := 1936) (by decide +kernel) rfl
theorem m_1938 : (Jvm.Cond.instanceMethod ({ cls := "SlitDrumModel", name := "gameOf", desc := "(IIII)I" } : Jvm.MethodName)) ∈ wt_ := wt_in (i := 1938) (by decide +kernel) rfl
theorem m_1939 : (Jvm.Cond.code ({ cls := "SlitDrumModel", name := "gameOf", desc := "(IIII)I" } : Jvm.MethodName) prog_14_method_113_code (7 : Nat) (Option.some Jvm.ClassFile.FieldType.int)) ∈ wt_ := wt_in (i := 1939) (by decide +kernel) rfl
theorem m_1940 : (Jvm.Cond.constant "SlitDrumModel" (400 : Nat) (67108863 : Int32)) ∈ wt_ := wt_in (i := 1940) (by decide +kernel) rfl
theorem m_1941 : (Jvm.Cond.methodLink "SlitDrumModel" (401 : Nat) ({ cls := "java/lang/Integer", name := "bitCount", desc := "(I)I" } : Jvm.MethodName)) ∈ wt_ := wt_in (i := 1941) (by decide +kernel) rfl
theorem m_1942 : (Jvm.Cond.methodLink "SlitDrumLaw" (188 : Nat) ({ cls := "SlitDrumModel", name := "rests", desc := "(II)I" } : Jvm.MethodName)) ∈ wt_ := wt_in (i := 1942) (by decide +kernel) rfl
theorem m_1943 : (Jvm.Cond.instanceMethod ({ cls := "SlitDrumModel", name := "rests", desc := "(II)I" } : Jvm.MethodName)) ∈ wt_ := wt_in (i := 1943) (by decide +kernel) rfl
theorem m_1944 : (Jvm.Cond.selects "SlitDrumModel" ({ cls := "SlitDrumModel", name := "rests", desc := "(II)I" } : Jvm.MethodName) ({ cls := "SlitDrumModel", name := "rests", desc := "(II)I" } : Jvm.MethodName)) ∈ wt_ := wt_in (i := 1944) (by decide +kernel) rfl
theorem m_1945 : (Jvm.Cond.code ({ cls := "SlitDrumModel", name := "rests", desc := "(II)I" } : Jvm.MethodName) prog_14_method_116_code (5 : Nat) (Option.some Jvm.ClassFile.FieldType.int)) ∈ wt_ := wt_in (i := 1945) (by decide +kernel) rfl
theorem m_1946 : (Jvm.Cond.methodLink "SlitDrumModel" (409 : Nat) ({ cls := "SlitDrumModel", name := "isRest", desc := "(III)Z" } : Jvm.MethodName)) ∈ wt_ := wt_in (i := 1946) (by decide +kernel) rfl
theorem m_1948 : (Jvm.Cond.instanceMethod ({ cls := "SlitDrumModel", name := "isRest", desc := "(III)Z" } : Jvm.MethodName)) ∈ wt_ := wt_in (i := 1948) (by decide +kernel) rfl
theorem m_1949 : (Jvm.Cond.code ({ cls := "SlitDrumModel", name := "isRest", desc := "(III)Z" } : Jvm.MethodName) prog_14_method_115_code (5 : Nat) (Option.some Jvm.ClassFile.FieldType.boolean)) ∈ wt_ := wt_in (i := 1949) (by decide +kernel) rfl
theorem m_1950 : (Jvm.Cond.methodLink "SlitDrumLaw" (192 : Nat) ({ cls := "SlitDrumModel", name := "odds", desc := "(IIII)I" } : Jvm.MethodName)) ∈ wt_ := wt_in (i := 1950) (by decide +kernel) rfl
theorem m_1951 : (Jvm.Cond.instanceMethod ({ cls := "SlitDrumModel", name := "odds", desc := "(IIII)I" } : Jvm.MethodName)) ∈ wt_ := wt_in (i := 1951) (by decide +kernel) rfl
theorem m_1952 : (Jvm.Cond.selects "SlitDrumModel" ({ cls := "SlitDrumModel", name := "odds", desc := "(IIII)I" } : Jvm.MethodName) ({ cls := "SlitDrumModel", name := "odds", desc := "(IIII)I" } : Jvm.MethodName)) ∈ wt_ := wt_in (i := 1952) (by decide +kernel) rfl
theorem m_1953 : (Jvm.Cond.code ({ cls := "SlitDrumModel", name := "odds", desc := "(IIII)I" } : Jvm.MethodName) prog_14_method_118_code (5 : Nat) (Option.some Jvm.ClassFile.FieldType.int)) ∈ wt_ := wt_in (i := 1953) (by decide +kernel) rfl
theorem m_1954 : (Jvm.Cond.constant "SlitDrumModel" (418 : Nat) (1000000000 : Int32)) ∈ wt_ := wt_in (i := 1954) (by decide +kernel) rfl
theorem m_1955 : (Jvm.Cond.methodLink "SlitDrumModel" (414 : Nat) ({ cls := "SlitDrumModel", name := "oddsFrom", desc := "(IIIIIII)I" } : Jvm.MethodName)) ∈ wt_ := wt_in (i := 1955) (by decide +kernel) rfl
theorem m_1957 : (Jvm.Cond.instanceMethod ({ cls := "SlitDrumModel", name := "oddsFrom", desc := "(IIIIIII)I" } : Jvm.MethodName)) ∈ wt_ := wt_in (i := 1957) (by decide +kernel) rfl
theorem m_1958 : (Jvm.Cond.code ({ cls := "SlitDrumModel", name := "oddsFrom", desc := "(IIIIIII)I" } : Jvm.MethodName) prog_14_method_117_code (9 : Nat) (Option.some Jvm.ClassFile.FieldType.int)) ∈ wt_ := wt_in (i := 1958) (by decide +kernel) rfl
theorem m_1959 : (Jvm.Cond.constantLong "SlitDrumModel" (412 : Nat) (100 : Int64)) ∈ wt_ := wt_in (i := 1959) (by decide +kernel) rfl
theorem m_1960 : (Jvm.Cond.methodLink "SlitDrumLaw" (196 : Nat) ({ cls := "SlitDrumModel", name := "shares", desc := "(II)I" } : Jvm.MethodName)) ∈ wt_ := wt_in (i := 1960) (by decide +kernel) rfl
theorem m_1961 : (Jvm.Cond.instanceMethod ({ cls := "SlitDrumModel", name := "shares", desc := "(II)I" } : Jvm.MethodName)) ∈ wt_ := wt_in (i := 1961) (by decide +kernel) rfl
theorem m_1962 : (Jvm.Cond.selects "SlitDrumModel" ({ cls := "SlitDrumModel", name := "shares", desc := "(II)I" } : Jvm.MethodName) ({ cls := "SlitDrumModel", name := "shares", desc := "(II)I" } : Jvm.MethodName)) ∈ wt_ := wt_in (i := 1962) (by decide +kernel) rfl
theorem m_1963 : (Jvm.Cond.code ({ cls := "SlitDrumModel", name := "shares", desc := "(II)I" } : Jvm.MethodName) prog_14_method_119_code (5 : Nat) (Option.some Jvm.ClassFile.FieldType.int)) ∈ wt_ := wt_in (i := 1963) (by decide +kernel) rfl
theorem m_1964 : (Jvm.Cond.methodLink "SlitDrumLaw" (200 : Nat) ({ cls := "SlitDrumModel", name := "most", desc := "(I)I" } : Jvm.MethodName)) ∈ wt_ := wt_in (i := 1964) (by decide +kernel) rfl
theorem m_1965 : (Jvm.Cond.instanceMethod ({ cls := "SlitDrumModel", name := "most", desc := "(I)I" } : Jvm.MethodName)) ∈ wt_ := wt_in (i := 1965) (by decide +kernel) rfl
theorem m_1966 : (Jvm.Cond.selects "SlitDrumModel" ({ cls := "SlitDrumModel", name := "most", desc := "(I)I" } : Jvm.MethodName) ({ cls := "SlitDrumModel", name := "most", desc := "(I)I" } : Jvm.MethodName)) ∈ wt_ := wt_in (i := 1966) (by decide +kernel) rfl
theorem m_1967 : (Jvm.Cond.code ({ cls := "SlitDrumModel", name := "most", desc := "(I)I" } : Jvm.MethodName) prog_14_method_127_code (2 : Nat) (Option.some Jvm.ClassFile.FieldType.int)) ∈ wt_ := wt_in (i := 1967) (by decide +kernel) rfl
theorem m_1968 : (Jvm.Cond.methodLink "SlitDrumModel" (422 : Nat) ({ cls := "SlitDrumModel", name := "topBy", desc := "(Z)I" } : Jvm.MethodName)) ∈ wt_ := wt_in (i := 1968) (by decide +kernel) rfl
theorem m_1970 : (Jvm.Cond.instanceMethod ({ cls := "SlitDrumModel", name := "topBy", desc := "(Z)I" } : Jvm.MethodName)) ∈ wt_ := wt_in (i := 1970) (by decide +kernel) rfl
theorem m_1971 : (Jvm.Cond.code ({ cls := "SlitDrumModel", name := "topBy", desc := "(Z)I" } : Jvm.MethodName) prog_14_method_120_code (5 : Nat) (Option.some Jvm.ClassFile.FieldType.int)) ∈ wt_ := wt_in (i := 1971) (by decide +kernel) rfl
theorem m_1972 : (Jvm.Cond.methodLink "SlitDrumModel" (426 : Nat) ({ cls := "SlitDrumModel", name := "commonest", desc := "()I" } : Jvm.MethodName)) ∈ wt_ := wt_in (i := 1972) (by decide +kernel) rfl
theorem m_1974 : (Jvm.Cond.instanceMethod ({ cls := "SlitDrumModel", name := "commonest", desc := "()I" } : Jvm.MethodName)) ∈ wt_ := wt_in (i := 1974) (by decide +kernel) rfl
theorem m_1975 : (Jvm.Cond.code ({ cls := "SlitDrumModel", name := "commonest", desc := "()I" } : Jvm.MethodName) prog_14_method_122_code (3 : Nat) (Option.some Jvm.ClassFile.FieldType.int)) ∈ wt_ := wt_in (i := 1975) (by decide +kernel) rfl
theorem m_1976 : (Jvm.Cond.methodLink "SlitDrumModel" (419 : Nat) ({ cls := "SlitDrumModel", name := "stripsWith", desc := "(I)I" } : Jvm.MethodName)) ∈ wt_ := wt_in (i := 1976) (by decide +kernel) rfl
theorem m_1978 : (Jvm.Cond.instanceMethod ({ cls := "SlitDrumModel", name := "stripsWith", desc := "(I)I" } : Jvm.MethodName)) ∈ wt_ := wt_in (i := 1978) (by decide +kernel) rfl
theorem m_1979 : (Jvm.Cond.code ({ cls := "SlitDrumModel", name := "stripsWith", desc := "(I)I" } : Jvm.MethodName) prog_14_method_121_code (6 : Nat) (Option.some Jvm.ClassFile.FieldType.int)) ∈ wt_ := wt_in (i := 1979) (by decide +kernel) rfl
theorem m_1980 : (Jvm.Cond.methodLink "SlitDrumModel" (429 : Nat) ({ cls := "SlitDrumModel", name := "shownOnes", desc := "()I" } : Jvm.MethodName)) ∈ wt_ := wt_in (i := 1980) (by decide +kernel) rfl
theorem m_1982 : (Jvm.Cond.instanceMethod ({ cls := "SlitDrumModel", name := "shownOnes", desc := "()I" } : Jvm.MethodName)) ∈ wt_ := wt_in (i := 1982) (by decide +kernel) rfl
theorem m_1983 : (Jvm.Cond.code ({ cls := "SlitDrumModel", name := "shownOnes", desc := "()I" } : Jvm.MethodName) prog_14_method_123_code (3 : Nat) (Option.some Jvm.ClassFile.FieldType.int)) ∈ wt_ := wt_in (i := 1983) (by decide +kernel) rfl
theorem m_1984 : (Jvm.Cond.methodLink "SlitDrumModel" (432 : Nat) ({ cls := "SlitDrumModel", name := "twins", desc := "()I" } : Jvm.MethodName)) ∈ wt_ := wt_in (i := 1984) (by decide +kernel) rfl
theorem m_1986 : (Jvm.Cond.instanceMethod ({ cls := "SlitDrumModel", name := "twins", desc := "()I" } : Jvm.MethodName)) ∈ wt_ := wt_in (i := 1986) (by decide +kernel) rfl
theorem m_1987 : (Jvm.Cond.code ({ cls := "SlitDrumModel", name := "twins", desc := "()I" } : Jvm.MethodName) prog_14_method_124_code (4 : Nat) (Option.some Jvm.ClassFile.FieldType.int)) ∈ wt_ := wt_in (i := 1987) (by decide +kernel) rfl
theorem m_1988 : (Jvm.Cond.methodLink "SlitDrumModel" (435 : Nat) ({ cls := "SlitDrumModel", name := "orderRow", desc := "()I" } : Jvm.MethodName)) ∈ wt_ := wt_in (i := 1988) (by decide +kernel) rfl
theorem m_1990 : (Jvm.Cond.instanceMethod ({ cls := "SlitDrumModel", name := "orderRow", desc := "()I" } : Jvm.MethodName)) ∈ wt_ := wt_in (i := 1990) (by decide +kernel) rfl
theorem m_1991 : (Jvm.Cond.code ({ cls := "SlitDrumModel", name := "orderRow", desc := "()I" } : Jvm.MethodName) prog_14_method_126_code (4 : Nat) (Option.some Jvm.ClassFile.FieldType.int)) ∈ wt_ := wt_in (i := 1991) (by decide +kernel) rfl
theorem m_1992 : (Jvm.Cond.methodLink "SlitDrumModel" (438 : Nat) ({ cls := "SlitDrumModel", name := "onesWho", desc := "(I)I" } : Jvm.MethodName)) ∈ wt_ := wt_in (i := 1992) (by decide +kernel) rfl
theorem m_1994 : (Jvm.Cond.instanceMethod ({ cls := "SlitDrumModel", name := "onesWho", desc := "(I)I" } : Jvm.MethodName)) ∈ wt_ := wt_in (i := 1994) (by decide +kernel) rfl
theorem m_1995 : (Jvm.Cond.code ({ cls := "SlitDrumModel", name := "onesWho", desc := "(I)I" } : Jvm.MethodName) prog_14_method_125_code (5 : Nat) (Option.some Jvm.ClassFile.FieldType.int)) ∈ wt_ := wt_in (i := 1995) (by decide +kernel) rfl
theorem m_1996 : (Jvm.Cond.methodLink "SlitDrumLaw" (204 : Nat) ({ cls := "SlitDrumModel", name := "image", desc := "()I" } : Jvm.MethodName)) ∈ wt_ := wt_in (i := 1996) (by decide +kernel) rfl
theorem m_1997 : (Jvm.Cond.instanceMethod ({ cls := "SlitDrumModel", name := "image", desc := "()I" } : Jvm.MethodName)) ∈ wt_ := wt_in (i := 1997) (by decide +kernel) rfl
theorem m_1998 : (Jvm.Cond.selects "SlitDrumModel" ({ cls := "SlitDrumModel", name := "image", desc := "()I" } : Jvm.MethodName) ({ cls := "SlitDrumModel", name := "image", desc := "()I" } : Jvm.MethodName)) ∈ wt_ := wt_in (i := 1998) (by decide +kernel) rfl
theorem m_1999 : (Jvm.Cond.code ({ cls := "SlitDrumModel", name := "image", desc := "()I" } : Jvm.MethodName) prog_14_method_128_code (2 : Nat) (Option.some Jvm.ClassFile.FieldType.int)) ∈ wt_ := wt_in (i := 1999) (by decide +kernel) rfl
theorem m_2000 : (Jvm.Cond.methodLink "SlitDrumLaw" (208 : Nat) ({ cls := "SlitDrumModel", name := "back", desc := "()I" } : Jvm.MethodName)) ∈ wt_ := wt_in (i := 2000) (by decide +kernel) rfl
theorem m_2001 : (Jvm.Cond.instanceMethod ({ cls := "SlitDrumModel", name := "back", desc := "()I" } : Jvm.MethodName)) ∈ wt_ := wt_in (i := 2001) (by decide +kernel) rfl
theorem m_2002 : (Jvm.Cond.selects "SlitDrumModel" ({ cls := "SlitDrumModel", name := "back", desc := "()I" } : Jvm.MethodName) ({ cls := "SlitDrumModel", name := "back", desc := "()I" } : Jvm.MethodName)) ∈ wt_ := wt_in (i := 2002) (by decide +kernel) rfl
theorem m_2003 : (Jvm.Cond.code ({ cls := "SlitDrumModel", name := "back", desc := "()I" } : Jvm.MethodName) prog_14_method_129_code (2 : Nat) (Option.some Jvm.ClassFile.FieldType.int)) ∈ wt_ := wt_in (i := 2003) (by decide +kernel) rfl
theorem m_2004 : (Jvm.Cond.methodLink "SlitDrumLaw" (212 : Nat) ({ cls := "SlitDrumModel", name := "count", desc := "(I)I" } : Jvm.MethodName)) ∈ wt_ := wt_in (i := 2004) (by decide +kernel) rfl
theorem m_2005 : (Jvm.Cond.instanceMethod ({ cls := "SlitDrumModel", name := "count", desc := "(I)I" } : Jvm.MethodName)) ∈ wt_ := wt_in (i := 2005) (by decide +kernel) rfl
theorem m_2006 : (Jvm.Cond.selects "SlitDrumModel" ({ cls := "SlitDrumModel", name := "count", desc := "(I)I" } : Jvm.MethodName) ({ cls := "SlitDrumModel", name := "count", desc := "(I)I" } : Jvm.MethodName)) ∈ wt_ := wt_in (i := 2006) (by decide +kernel) rfl
theorem m_2007 : (Jvm.Cond.code ({ cls := "SlitDrumModel", name := "count", desc := "(I)I" } : Jvm.MethodName) prog_14_method_130_code (2 : Nat) (Option.some Jvm.ClassFile.FieldType.int)) ∈ wt_ := wt_in (i := 2007) (by decide +kernel) rfl
theorem m_2008 : (Jvm.Cond.constantLong "SlitDrumLaw" (96 : Nat) (4294967295 : Int64)) ∈ wt_ := wt_in (i := 2008) (by decide +kernel) rfl
theorem m_2009 : (Jvm.Cond.arrayClass Jvm.ClassFile.FieldType.long) ∈ wt_ := wt_in (i := 2009) (by decide +kernel) rfl
theorem m_2010 : (Jvm.Cond.sameMethod "java/lang/Throwable" "java/lang/Throwable" "fillInStackTrace" "(I)Ljava/lang/Throwable;") ∈ wt_ := wt_in (i := 2010) (by decide +kernel) rfl
set_option maxRecDepth 20000 in
theorem lay_X0 : ∀ w ∈ u_ws RX0 TX0 10, w ∈ wt_ := wt_sub _ [388, 390, 392, 394, 396, 398, 400, 402, 404, 406] (by decide +kernel) (by decide +kernel)
set_option maxRecDepth 20000 in
theorem lay_X1 : ∀ w ∈ u_ws RX1 TX1 7, w ∈ wt_ := wt_sub _ [192, 194, 196, 184, 186, 188, 190] (by decide +kernel) (by decide +kernel)
set_option maxRecDepth 20000 in
theorem lay_X2 : ∀ w ∈ u_ws RX2 TX2 3, w ∈ wt_ := wt_sub _ [798, 800, 802] (by decide +kernel) (by decide +kernel)
set_option maxRecDepth 20000 in
theorem lay_X3 : ∀ w ∈ u_ws RX3 TX3 5, w ∈ wt_ := wt_sub _ [212, 213, 214, 208, 210] (by decide +kernel) (by decide +kernel)
set_option maxRecDepth 20000 in
theorem lay_X4 : ∀ w ∈ u_ws RX4 TX4 7, w ∈ wt_ := wt_sub _ [353, 355, 357, 359, 361, 363, 365] (by decide +kernel) (by decide +kernel)
set_option maxRecDepth 20000 in
theorem lay_X5 : ∀ w ∈ u_ws RX5 TX5 3, w ∈ wt_ := wt_sub _ [331, 333, 335] (by decide +kernel) (by decide +kernel)
set_option maxRecDepth 20000 in
theorem lay_X7 : ∀ w ∈ u_ws RX7 TX7 8, w ∈ wt_ := wt_sub _ [301, 303, 305, 307, 309, 311, 313, 315] (by decide +kernel) (by decide +kernel)
set_option maxRecDepth 20000 in
theorem lay_X8 : ∀ w ∈ u_ws RX8 TX8 1, w ∈ wt_ := wt_sub _ [242] (by decide +kernel) (by decide +kernel)
set_option maxRecDepth 20000 in
theorem lay_X9 : ∀ w ∈ u_ws RX9 TX9 5, w ∈ wt_ := wt_sub _ [228, 229, 230, 224, 226] (by decide +kernel) (by decide +kernel)
set_option maxRecDepth 20000 in
theorem lay_X10 : ∀ w ∈ u_ws RX10 TX10 4, w ∈ wt_ := wt_sub _ [271, 273, 275, 277] (by decide +kernel) (by decide +kernel)
set_option maxRecDepth 20000 in
theorem lay_X11 : ∀ w ∈ u_ws RX11 TX11 20, w ∈ wt_ := wt_sub _ [429, 431, 433, 435, 437, 439, 441, 443, 445, 447, 449, 451, 453, 455, 457, 459, 461, 463, 465, 467] (by decide +kernel) (by decide +kernel)
set_option maxRecDepth 20000 in
theorem lay_X12 : ∀ w ∈ u_ws RX12 TX12 41, w ∈ wt_ := wt_sub _ [1410, 1412, 1414, 1416, 1418, 1420, 1422, 1424, 1426, 1428, 1430, 1432, 1434, 1436, 1438, 1440, 1442, 1444, 1446, 1448, 1450, 1452, 1454, 1456, 1458, 1460, 1462, 1464, 1466, 1468, 1470, 1472, 1474, 1476, 1478, 1480, 1482, 1484, 1486, 1488, 1490] (by decide +kernel) (by decide +kernel)
