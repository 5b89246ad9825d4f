/-! the methods by their names: walks and contracts (cells made: none) -/
abbrev V_J6_bitCount_0f7a4 (Q : QT) (pc : Nat) (L st : List Value) (ρ : RT) (f : IT) (g : JT) : Prop := V yJ6_bitCount_0f7a4 cJ6_bitCount_0f7a4 1 (some .int) 0 0 0 false Q NF NF 0 0 pc L st ρ f g
abbrev C_J6_bitCount_0f7a4 (as : List Value) (ρ : RT) (f : IT) (g : JT) (Q : QT) : Prop := Ct yJ6_bitCount_0f7a4 cJ6_bitCount_0f7a4 1 (some .int) 0 0 0 NF NF as ρ f g Q
abbrev V_J9_max_7cf53 (Q : QT) (pc : Nat) (L st : List Value) (ρ : RT) (f : IT) (g : JT) : Prop := V yJ9_max_7cf53 cJ9_max_7cf53 2 (some .int) 0 0 0 false Q NF NF 0 0 pc L st ρ f g
abbrev C_J9_max_7cf53 (as : List Value) (ρ : RT) (f : IT) (g : JT) (Q : QT) : Prop := Ct yJ9_max_7cf53 cJ9_max_7cf53 2 (some .int) 0 0 0 NF NF as ρ f g Q
abbrev V_J9_min_7cf53 (Q : QT) (pc : Nat) (L st : List Value) (ρ : RT) (f : IT) (g : JT) : Prop := V yJ9_min_7cf53 cJ9_min_7cf53 2 (some .int) 0 0 0 false Q NF NF 0 0 pc L st ρ f g
abbrev C_J9_min_7cf53 (as : List Value) (ρ : RT) (f : IT) (g : JT) (Q : QT) : Prop := Ct yJ9_min_7cf53 cJ9_min_7cf53 2 (some .int) 0 0 0 NF NF as ρ f g Q
abbrev V_X0_give (Q : QT) (pc : Nat) (L st : List Value) (ρ : RT) (f : IT) (g : JT) : Prop := V yX0_give cX0_give 6 none 0 0 0 false Q NF NF 0 0 pc L st ρ f g
abbrev C_X0_give (as : List Value) (ρ : RT) (f : IT) (g : JT) (Q : QT) : Prop := Ct yX0_give cX0_give 6 none 0 0 0 NF NF as ρ f g Q
abbrev V_X0_lay (Q : QT) (pc : Nat) (L st : List Value) (ρ : RT) (f : IT) (g : JT) : Prop := V yX0_lay cX0_lay 2 none 3 0 0 false Q NF NF 0 0 pc L st ρ f g
abbrev C_X0_lay (as : List Value) (ρ : RT) (f : IT) (g : JT) (Q : QT) : Prop := Ct yX0_lay cX0_lay 2 none 3 0 0 NF NF as ρ f g Q
abbrev V_X0_lieUnder (Q : QT) (pc : Nat) (L st : List Value) (ρ : RT) (f : IT) (g : JT) : Prop := V yX0_lieUnder cX0_lieUnder 7 none 3 0 0 false Q NF NF 0 0 pc L st ρ f g
abbrev C_X0_lieUnder (as : List Value) (ρ : RT) (f : IT) (g : JT) (Q : QT) : Prop := Ct yX0_lieUnder cX0_lieUnder 7 none 3 0 0 NF NF as ρ f g Q
abbrev V_X0_spread (Q : QT) (pc : Nat) (L st : List Value) (ρ : RT) (f : IT) (g : JT) : Prop := V yX0_spread cX0_spread 2 none 2 0 0 false Q NF NF 0 0 pc L st ρ f g
abbrev C_X0_spread (as : List Value) (ρ : RT) (f : IT) (g : JT) (Q : QT) : Prop := Ct yX0_spread cX0_spread 2 none 2 0 0 NF NF as ρ f g Q
abbrev V_X0_stepsOf (Q : QT) (pc : Nat) (L st : List Value) (ρ : RT) (f : IT) (g : JT) : Prop := V yX0_stepsOf cX0_stepsOf 2 (some .int) 0 0 0 false Q NF NF 0 0 pc L st ρ f g
abbrev C_X0_stepsOf (as : List Value) (ρ : RT) (f : IT) (g : JT) (Q : QT) : Prop := Ct yX0_stepsOf cX0_stepsOf 2 (some .int) 0 0 0 NF NF as ρ f g Q
abbrev V_X0_taken (Q : QT) (pc : Nat) (L st : List Value) (ρ : RT) (f : IT) (g : JT) : Prop := V yX0_taken cX0_taken 14 (some .int) 3 0 0 false Q NF NF 0 0 pc L st ρ f g
abbrev C_X0_taken (as : List Value) (ρ : RT) (f : IT) (g : JT) (Q : QT) : Prop := Ct yX0_taken cX0_taken 14 (some .int) 3 0 0 NF NF as ρ f g Q
abbrev V_X10_begin (Q : QT) (pc : Nat) (L st : List Value) (ρ : RT) (f : IT) (g : JT) : Prop := V yX10_begin cX10_begin 5 none 3 0 0 false Q NF NF 0 0 pc L st ρ f g
abbrev C_X10_begin (as : List Value) (ρ : RT) (f : IT) (g : JT) (Q : QT) : Prop := Ct yX10_begin cX10_begin 5 none 3 0 0 NF NF as ρ f g Q
abbrev V_X10_grip (Q : QT) (pc : Nat) (L st : List Value) (ρ : RT) (f : IT) (g : JT) : Prop := V yX10_grip cX10_grip 3 none 2 0 0 false Q NF NF 0 0 pc L st ρ f g
abbrev C_X10_grip (as : List Value) (ρ : RT) (f : IT) (g : JT) (Q : QT) : Prop := Ct yX10_grip cX10_grip 3 none 2 0 0 NF NF as ρ f g Q
abbrev V_X10_isGoing (Q : QT) (pc : Nat) (L st : List Value) (ρ : RT) (f : IT) (g : JT) : Prop := V yX10_isGoing cX10_isGoing 2 (some .boolean) 1 0 0 false Q NF NF 0 0 pc L st ρ f g
abbrev C_X10_isGoing (as : List Value) (ρ : RT) (f : IT) (g : JT) (Q : QT) : Prop := Ct yX10_isGoing cX10_isGoing 2 (some .boolean) 1 0 0 NF NF as ρ f g Q
abbrev V_X10_isOut (Q : QT) (pc : Nat) (L st : List Value) (ρ : RT) (f : IT) (g : JT) : Prop := V yX10_isOut cX10_isOut 1 (some .boolean) 0 0 0 false Q NF NF 0 0 pc L st ρ f g
abbrev C_X10_isOut (as : List Value) (ρ : RT) (f : IT) (g : JT) (Q : QT) : Prop := Ct yX10_isOut cX10_isOut 1 (some .boolean) 0 0 0 NF NF as ρ f g Q
abbrev V_X10_nextPace (Q : QT) (pc : Nat) (L st : List Value) (ρ : RT) (f : IT) (g : JT) : Prop := V yX10_nextPace cX10_nextPace 2 (some .int) 2 0 0 false Q NF NF 0 0 pc L st ρ f g
abbrev C_X10_nextPace (as : List Value) (ρ : RT) (f : IT) (g : JT) (Q : QT) : Prop := Ct yX10_nextPace cX10_nextPace 2 (some .int) 2 0 0 NF NF as ρ f g Q
abbrev V_X10_slip (Q : QT) (pc : Nat) (L st : List Value) (ρ : RT) (f : IT) (g : JT) : Prop := V yX10_slip cX10_slip 5 none 2 0 0 false Q NF NF 0 0 pc L st ρ f g
abbrev C_X10_slip (as : List Value) (ρ : RT) (f : IT) (g : JT) (Q : QT) : Prop := Ct yX10_slip cX10_slip 5 none 2 0 0 NF NF as ρ f g Q
abbrev V_X10_stand (Q : QT) (pc : Nat) (L st : List Value) (ρ : RT) (f : IT) (g : JT) : Prop := V yX10_stand cX10_stand 5 none 0 0 0 false Q NF NF 0 0 pc L st ρ f g
abbrev C_X10_stand (as : List Value) (ρ : RT) (f : IT) (g : JT) (Q : QT) : Prop := Ct yX10_stand cX10_stand 5 none 0 0 0 NF NF as ρ f g Q
abbrev V_X10_step (Q : QT) (pc : Nat) (L st : List Value) (ρ : RT) (f : IT) (g : JT) : Prop := V yX10_step cX10_step 3 none 5 0 0 false Q NF NF 0 0 pc L st ρ f g
abbrev C_X10_step (as : List Value) (ρ : RT) (f : IT) (g : JT) (Q : QT) : Prop := Ct yX10_step cX10_step 3 none 5 0 0 NF NF as ρ f g Q
abbrev V_X10_take (Q : QT) (pc : Nat) (L st : List Value) (ρ : RT) (f : IT) (g : JT) : Prop := V yX10_take cX10_take 2 none 0 0 0 false Q NF NF 0 0 pc L st ρ f g
abbrev C_X10_take (as : List Value) (ρ : RT) (f : IT) (g : JT) (Q : QT) : Prop := Ct yX10_take cX10_take 2 none 0 0 0 NF NF as ρ f g Q
abbrev V_X10_tread (Q : QT) (pc : Nat) (L st : List Value) (ρ : RT) (f : IT) (g : JT) : Prop := V yX10_tread cX10_tread 9 none 4 0 0 false Q NF NF 0 0 pc L st ρ f g
abbrev C_X10_tread (as : List Value) (ρ : RT) (f : IT) (g : JT) (Q : QT) : Prop := Ct yX10_tread cX10_tread 9 none 4 0 0 NF NF as ρ f g Q
abbrev V_X11_alike (Q : QT) (pc : Nat) (L st : List Value) (ρ : RT) (f : IT) (g : JT) : Prop := V yX11_alike cX11_alike 6 (some .int) 7 0 0 false Q NF NF 0 0 pc L st ρ f g
abbrev C_X11_alike (as : List Value) (ρ : RT) (f : IT) (g : JT) (Q : QT) : Prop := Ct yX11_alike cX11_alike 6 (some .int) 7 0 0 NF NF as ρ f g Q
abbrev V_X11_areMen (Q : QT) (pc : Nat) (L st : List Value) (ρ : RT) (f : IT) (g : JT) : Prop := V yX11_areMen cX11_areMen 2 (some .boolean) 1 0 0 false Q NF NF 0 0 pc L st ρ f g
abbrev C_X11_areMen (as : List Value) (ρ : RT) (f : IT) (g : JT) (Q : QT) : Prop := Ct yX11_areMen cX11_areMen 2 (some .boolean) 1 0 0 NF NF as ρ f g Q
abbrev V_X11_back (Q : QT) (pc : Nat) (L st : List Value) (ρ : RT) (f : IT) (g : JT) : Prop := V yX11_back cX11_back 1 (some .int) 1 0 0 false Q NF NF 0 0 pc L st ρ f g
abbrev C_X11_back (as : List Value) (ρ : RT) (f : IT) (g : JT) (Q : QT) : Prop := Ct yX11_back cX11_back 1 (some .int) 1 0 0 NF NF as ρ f g Q
abbrev V_X11_beats (Q : QT) (pc : Nat) (L st : List Value) (ρ : RT) (f : IT) (g : JT) : Prop := V yX11_beats cX11_beats 7 (some .int) 7 0 0 false Q NF NF 0 0 pc L st ρ f g
abbrev C_X11_beats (as : List Value) (ρ : RT) (f : IT) (g : JT) (Q : QT) : Prop := Ct yX11_beats cX11_beats 7 (some .int) 7 0 0 NF NF as ρ f g Q
abbrev V_X11_best (Q : QT) (pc : Nat) (L st : List Value) (ρ : RT) (f : IT) (g : JT) : Prop := V yX11_best cX11_best 3 (some .int) 7 0 0 false Q NF NF 0 0 pc L st ρ f g
abbrev C_X11_best (as : List Value) (ρ : RT) (f : IT) (g : JT) (Q : QT) : Prop := Ct yX11_best cX11_best 3 (some .int) 7 0 0 NF NF as ρ f g Q
abbrev V_X11_canHold (Q : QT) (pc : Nat) (L st : List Value) (ρ : RT) (f : IT) (g : JT) : Prop := V yX11_canHold cX11_canHold 3 (some .boolean) 1 0 0 false Q NF NF 0 0 pc L st ρ f g
abbrev C_X11_canHold (as : List Value) (ρ : RT) (f : IT) (g : JT) (Q : QT) : Prop := Ct yX11_canHold cX11_canHold 3 (some .boolean) 1 0 0 NF NF as ρ f g Q
abbrev V_X11_canRun (Q : QT) (pc : Nat) (L st : List Value) (ρ : RT) (f : IT) (g : JT) : Prop := V yX11_canRun cX11_canRun 3 (some .boolean) 1 0 0 false Q NF NF 0 0 pc L st ρ f g
abbrev C_X11_canRun (as : List Value) (ρ : RT) (f : IT) (g : JT) (Q : QT) : Prop := Ct yX11_canRun cX11_canRun 3 (some .boolean) 1 0 0 NF NF as ρ f g Q
abbrev V_X11_chanceToSay (Q : QT) (pc : Nat) (L st : List Value) (ρ : RT) (f : IT) (g : JT) : Prop := V yX11_chanceToSay cX11_chanceToSay 8 (some .long) 2 0 0 false Q NF NF 0 0 pc L st ρ f g
abbrev C_X11_chanceToSay (as : List Value) (ρ : RT) (f : IT) (g : JT) (Q : QT) : Prop := Ct yX11_chanceToSay cX11_chanceToSay 8 (some .long) 2 0 0 NF NF as ρ f g Q
abbrev V_X11_commonDivisor (Q : QT) (pc : Nat) (L st : List Value) (ρ : RT) (f : IT) (g : JT) : Prop := V yX11_commonDivisor cX11_commonDivisor 11 (some .long) 0 0 0 false Q NF NF 0 0 pc L st ρ f g
abbrev C_X11_commonDivisor (as : List Value) (ρ : RT) (f : IT) (g : JT) (Q : QT) : Prop := Ct yX11_commonDivisor cX11_commonDivisor 11 (some .long) 0 0 0 NF NF as ρ f g Q
abbrev V_X11_corner (Q : QT) (pc : Nat) (L st : List Value) (ρ : RT) (f : IT) (g : JT) : Prop := V yX11_corner cX11_corner 5 (some .int) 6 0 0 false Q NF NF 0 0 pc L st ρ f g
abbrev C_X11_corner (as : List Value) (ρ : RT) (f : IT) (g : JT) (Q : QT) : Prop := Ct yX11_corner cX11_corner 5 (some .int) 6 0 0 NF NF as ρ f g Q
abbrev V_X11_count (Q : QT) (pc : Nat) (L st : List Value) (ρ : RT) (f : IT) (g : JT) : Prop := V yX11_count cX11_count 2 (some .int) 3 0 0 false Q NF NF 0 0 pc L st ρ f g
abbrev C_X11_count (as : List Value) (ρ : RT) (f : IT) (g : JT) (Q : QT) : Prop := Ct yX11_count cX11_count 2 (some .int) 3 0 0 NF NF as ρ f g Q
abbrev V_X11_down (Q : QT) (pc : Nat) (L st : List Value) (ρ : RT) (f : IT) (g : JT) : Prop := V yX11_down cX11_down 12 (some .long) 3 0 0 false Q NF NF 0 0 pc L st ρ f g
abbrev C_X11_down (as : List Value) (ρ : RT) (f : IT) (g : JT) (Q : QT) : Prop := Ct yX11_down cX11_down 12 (some .long) 3 0 0 NF NF as ρ f g Q
abbrev V_X11_drawRace (Q : QT) (pc : Nat) (L st : List Value) (ρ : RT) (f : IT) (g : JT) : Prop := V yX11_drawRace cX11_drawRace 4 (some .boolean) 6 0 0 false Q NF NF 0 0 pc L st ρ f g
abbrev C_X11_drawRace (as : List Value) (ρ : RT) (f : IT) (g : JT) (Q : QT) : Prop := Ct yX11_drawRace cX11_drawRace 4 (some .boolean) 6 0 0 NF NF as ρ f g Q
abbrev V_X11_errors (Q : QT) (pc : Nat) (L st : List Value) (ρ : RT) (f : IT) (g : JT) : Prop := V yX11_errors cX11_errors 3 (some .int) 4 0 0 false Q NF NF 0 0 pc L st ρ f g
abbrev C_X11_errors (as : List Value) (ρ : RT) (f : IT) (g : JT) (Q : QT) : Prop := Ct yX11_errors cX11_errors 3 (some .int) 4 0 0 NF NF as ρ f g Q
abbrev V_X11_fault (Q : QT) (pc : Nat) (L st : List Value) (ρ : RT) (f : IT) (g : JT) : Prop := V yX11_fault cX11_fault 2 (some .int) 0 0 0 false Q NF NF 0 0 pc L st ρ f g
abbrev C_X11_fault (as : List Value) (ρ : RT) (f : IT) (g : JT) (Q : QT) : Prop := Ct yX11_fault cX11_fault 2 (some .int) 0 0 0 NF NF as ρ f g Q
abbrev V_X11_feed (Q : QT) (pc : Nat) (L st : List Value) (ρ : RT) (f : IT) (g : JT) : Prop := V yX11_feed cX11_feed 6 (some .int) 1 0 0 false Q NF NF 0 0 pc L st ρ f g
abbrev C_X11_feed (as : List Value) (ρ : RT) (f : IT) (g : JT) (Q : QT) : Prop := Ct yX11_feed cX11_feed 6 (some .int) 1 0 0 NF NF as ρ f g Q
abbrev V_X11_fits (Q : QT) (pc : Nat) (L st : List Value) (ρ : RT) (f : IT) (g : JT) : Prop := V yX11_fits cX11_fits 3 (some .int) 7 0 0 false Q NF NF 0 0 pc L st ρ f g
abbrev C_X11_fits (as : List Value) (ρ : RT) (f : IT) (g : JT) (Q : QT) : Prop := Ct yX11_fits cX11_fits 3 (some .int) 7 0 0 NF NF as ρ f g Q
abbrev V_X11_flat (Q : QT) (pc : Nat) (L st : List Value) (ρ : RT) (f : IT) (g : JT) : Prop := V yX11_flat cX11_flat 3 (some .int) 7 0 0 false Q NF NF 0 0 pc L st ρ f g
abbrev C_X11_flat (as : List Value) (ρ : RT) (f : IT) (g : JT) (Q : QT) : Prop := Ct yX11_flat cX11_flat 3 (some .int) 7 0 0 NF NF as ρ f g Q
abbrev V_X11_go (Q : QT) (pc : Nat) (L st : List Value) (ρ : RT) (f : IT) (g : JT) : Prop := V yX11_go cX11_go 3 (some .int) 6 0 0 false Q NF NF 0 0 pc L st ρ f g
abbrev C_X11_go (as : List Value) (ρ : RT) (f : IT) (g : JT) (Q : QT) : Prop := Ct yX11_go cX11_go 3 (some .int) 6 0 0 NF NF as ρ f g Q
abbrev V_X11_held (Q : QT) (pc : Nat) (L st : List Value) (ρ : RT) (f : IT) (g : JT) : Prop := V yX11_held cX11_held 7 (some .int) 7 0 0 false Q NF NF 0 0 pc L st ρ f g
abbrev C_X11_held (as : List Value) (ρ : RT) (f : IT) (g : JT) (Q : QT) : Prop := Ct yX11_held cX11_held 7 (some .int) 7 0 0 NF NF as ρ f g Q
abbrev V_X11_isBend (Q : QT) (pc : Nat) (L st : List Value) (ρ : RT) (f : IT) (g : JT) : Prop := V yX11_isBend cX11_isBend 2 (some .boolean) 2 0 0 false Q NF NF 0 0 pc L st ρ f g
abbrev C_X11_isBend (as : List Value) (ρ : RT) (f : IT) (g : JT) (Q : QT) : Prop := Ct yX11_isBend cX11_isBend 2 (some .boolean) 2 0 0 NF NF as ρ f g Q
abbrev V_X11_isPace (Q : QT) (pc : Nat) (L st : List Value) (ρ : RT) (f : IT) (g : JT) : Prop := V yX11_isPace cX11_isPace 1 (some .boolean) 0 0 0 false Q NF NF 0 0 pc L st ρ f g
abbrev C_X11_isPace (as : List Value) (ρ : RT) (f : IT) (g : JT) (Q : QT) : Prop := Ct yX11_isPace cX11_isPace 1 (some .boolean) 0 0 0 NF NF as ρ f g Q
abbrev V_X11_isPair (Q : QT) (pc : Nat) (L st : List Value) (ρ : RT) (f : IT) (g : JT) : Prop := V yX11_isPair cX11_isPair 1 (some .boolean) 0 0 0 false Q NF NF 0 0 pc L st ρ f g
abbrev C_X11_isPair (as : List Value) (ρ : RT) (f : IT) (g : JT) (Q : QT) : Prop := Ct yX11_isPair cX11_isPair 1 (some .boolean) 0 0 0 NF NF as ρ f g Q
abbrev V_X11_isSafe (Q : QT) (pc : Nat) (L st : List Value) (ρ : RT) (f : IT) (g : JT) : Prop := V yX11_isSafe cX11_isSafe 6 (some .boolean) 6 0 0 false Q NF NF 0 0 pc L st ρ f g
abbrev C_X11_isSafe (as : List Value) (ρ : RT) (f : IT) (g : JT) (Q : QT) : Prop := Ct yX11_isSafe cX11_isSafe 6 (some .boolean) 6 0 0 NF NF as ρ f g Q
abbrev V_X11_keep (Q : QT) (pc : Nat) (L st : List Value) (ρ : RT) (f : IT) (g : JT) : Prop := V yX11_keep cX11_keep 1 (some .int) 1 0 0 false Q NF NF 0 0 pc L st ρ f g
abbrev C_X11_keep (as : List Value) (ρ : RT) (f : IT) (g : JT) (Q : QT) : Prop := Ct yX11_keep cX11_keep 1 (some .int) 1 0 0 NF NF as ρ f g Q
abbrev V_X11_known (Q : QT) (pc : Nat) (L st : List Value) (ρ : RT) (f : IT) (g : JT) : Prop := V yX11_known cX11_known 2 (some .boolean) 1 0 0 false Q NF NF 0 0 pc L st ρ f g
abbrev C_X11_known (as : List Value) (ρ : RT) (f : IT) (g : JT) (Q : QT) : Prop := Ct yX11_known cX11_known 2 (some .boolean) 1 0 0 NF NF as ρ f g Q
abbrev V_X11_law (Q : QT) (pc : Nat) (L st : List Value) (ρ : RT) (f : IT) (g : JT) : Prop := V yX11_law cX11_law 5 (some .long) 5 0 0 false Q NF NF 0 0 pc L st ρ f g
abbrev C_X11_law (as : List Value) (ρ : RT) (f : IT) (g : JT) (Q : QT) : Prop := Ct yX11_law cX11_law 5 (some .long) 5 0 0 NF NF as ρ f g Q
abbrev V_X11_layTurn (Q : QT) (pc : Nat) (L st : List Value) (ρ : RT) (f : IT) (g : JT) : Prop := V yX11_layTurn cX11_layTurn 4 none 5 0 0 false Q NF NF 0 0 pc L st ρ f g
abbrev C_X11_layTurn (as : List Value) (ρ : RT) (f : IT) (g : JT) (Q : QT) : Prop := Ct yX11_layTurn cX11_layTurn 4 none 5 0 0 NF NF as ρ f g Q
abbrev V_X11_led (Q : QT) (pc : Nat) (L st : List Value) (ρ : RT) (f : IT) (g : JT) : Prop := V yX11_led cX11_led 5 (some .int) 7 0 0 false Q NF NF 0 0 pc L st ρ f g
abbrev C_X11_led (as : List Value) (ρ : RT) (f : IT) (g : JT) (Q : QT) : Prop := Ct yX11_led cX11_led 5 (some .int) 7 0 0 NF NF as ρ f g Q
abbrev V_X11_look (Q : QT) (pc : Nat) (L st : List Value) (ρ : RT) (f : IT) (g : JT) : Prop := V yX11_look cX11_look 3 (some .int) 2 0 0 false Q NF NF 0 0 pc L st ρ f g
abbrev C_X11_look (as : List Value) (ρ : RT) (f : IT) (g : JT) (Q : QT) : Prop := Ct yX11_look cX11_look 3 (some .int) 2 0 0 NF NF as ρ f g Q
abbrev V_X11_makeReady (Q : QT) (pc : Nat) (L st : List Value) (ρ : RT) (f : IT) (g : JT) : Prop := V yX11_makeReady cX11_makeReady 2 none 4 0 0 false Q NF NF 0 0 pc L st ρ f g
abbrev C_X11_makeReady (as : List Value) (ρ : RT) (f : IT) (g : JT) (Q : QT) : Prop := Ct yX11_makeReady cX11_makeReady 2 none 4 0 0 NF NF as ρ f g Q
abbrev V_X11_missed (Q : QT) (pc : Nat) (L st : List Value) (ρ : RT) (f : IT) (g : JT) : Prop := V yX11_missed cX11_missed 6 (some .int) 3 0 0 false Q NF NF 0 0 pc L st ρ f g
abbrev C_X11_missed (as : List Value) (ρ : RT) (f : IT) (g : JT) (Q : QT) : Prop := Ct yX11_missed cX11_missed 6 (some .int) 3 0 0 NF NF as ρ f g Q
abbrev V_X11_named (Q : QT) (pc : Nat) (L st : List Value) (ρ : RT) (f : IT) (g : JT) : Prop := V yX11_named cX11_named 3 (some .int) 1 0 0 false Q NF NF 0 0 pc L st ρ f g
abbrev C_X11_named (as : List Value) (ρ : RT) (f : IT) (g : JT) (Q : QT) : Prop := Ct yX11_named cX11_named 3 (some .int) 1 0 0 NF NF as ρ f g Q
abbrev V_X11_note (Q : QT) (pc : Nat) (L st : List Value) (ρ : RT) (f : IT) (g : JT) : Prop := V yX11_note cX11_note 5 (some .int) 2 0 0 false Q NF NF 0 0 pc L st ρ f g
abbrev C_X11_note (as : List Value) (ρ : RT) (f : IT) (g : JT) (Q : QT) : Prop := Ct yX11_note cX11_note 5 (some .int) 2 0 0 NF NF as ρ f g Q
abbrev V_X11_now (Q : QT) (pc : Nat) (L st : List Value) (ρ : RT) (f : IT) (g : JT) : Prop := V yX11_now cX11_now 2 (some .int) 3 0 0 false Q NF NF 0 0 pc L st ρ f g
abbrev C_X11_now (as : List Value) (ρ : RT) (f : IT) (g : JT) (Q : QT) : Prop := Ct yX11_now cX11_now 2 (some .int) 3 0 0 NF NF as ρ f g Q
abbrev V_X11_pace (Q : QT) (pc : Nat) (L st : List Value) (ρ : RT) (f : IT) (g : JT) : Prop := V yX11_pace cX11_pace 3 (some .int) 2 0 0 false Q NF NF 0 0 pc L st ρ f g
abbrev C_X11_pace (as : List Value) (ρ : RT) (f : IT) (g : JT) (Q : QT) : Prop := Ct yX11_pace cX11_pace 3 (some .int) 2 0 0 NF NF as ρ f g Q
abbrev V_X11_paced (Q : QT) (pc : Nat) (L st : List Value) (ρ : RT) (f : IT) (g : JT) : Prop := V yX11_paced cX11_paced 2 (some .boolean) 2 0 0 false Q NF NF 0 0 pc L st ρ f g
abbrev C_X11_paced (as : List Value) (ρ : RT) (f : IT) (g : JT) (Q : QT) : Prop := Ct yX11_paced cX11_paced 2 (some .boolean) 2 0 0 NF NF as ρ f g Q
abbrev V_X11_paces (Q : QT) (pc : Nat) (L st : List Value) (ρ : RT) (f : IT) (g : JT) : Prop := V yX11_paces cX11_paces 4 (some .int) 7 0 0 false Q NF NF 0 0 pc L st ρ f g
abbrev C_X11_paces (as : List Value) (ρ : RT) (f : IT) (g : JT) (Q : QT) : Prop := Ct yX11_paces cX11_paces 4 (some .int) 7 0 0 NF NF as ρ f g Q
abbrev V_X11_quick (Q : QT) (pc : Nat) (L st : List Value) (ρ : RT) (f : IT) (g : JT) : Prop := V yX11_quick cX11_quick 6 (some .int) 7 0 0 false Q NF NF 0 0 pc L st ρ f g
abbrev C_X11_quick (as : List Value) (ρ : RT) (f : IT) (g : JT) (Q : QT) : Prop := Ct yX11_quick cX11_quick 6 (some .int) 7 0 0 NF NF as ρ f g Q
abbrev V_X11_race (Q : QT) (pc : Nat) (L st : List Value) (ρ : RT) (f : IT) (g : JT) : Prop := V yX11_race cX11_race 3 (some .boolean) 4 0 0 false Q NF NF 0 0 pc L st ρ f g
abbrev C_X11_race (as : List Value) (ρ : RT) (f : IT) (g : JT) (Q : QT) : Prop := Ct yX11_race cX11_race 3 (some .boolean) 4 0 0 NF NF as ρ f g Q
abbrev V_X11_rain (Q : QT) (pc : Nat) (L st : List Value) (ρ : RT) (f : IT) (g : JT) : Prop := V yX11_rain cX11_rain 4 (some .int) 2 0 0 false Q NF NF 0 0 pc L st ρ f g
abbrev C_X11_rain (as : List Value) (ρ : RT) (f : IT) (g : JT) (Q : QT) : Prop := Ct yX11_rain cX11_rain 4 (some .int) 2 0 0 NF NF as ρ f g Q
abbrev V_X11_remember (Q : QT) (pc : Nat) (L st : List Value) (ρ : RT) (f : IT) (g : JT) : Prop := V yX11_remember cX11_remember 3 none 1 0 0 false Q NF NF 0 0 pc L st ρ f g
abbrev C_X11_remember (as : List Value) (ρ : RT) (f : IT) (g : JT) (Q : QT) : Prop := Ct yX11_remember cX11_remember 3 none 1 0 0 NF NF as ρ f g Q
abbrev V_X11_rest (Q : QT) (pc : Nat) (L st : List Value) (ρ : RT) (f : IT) (g : JT) : Prop := V yX11_rest cX11_rest 7 (some .int) 6 0 0 false Q NF NF 0 0 pc L st ρ f g
abbrev C_X11_rest (as : List Value) (ρ : RT) (f : IT) (g : JT) (Q : QT) : Prop := Ct yX11_rest cX11_rest 7 (some .int) 6 0 0 NF NF as ρ f g Q
abbrev V_X11_rests (Q : QT) (pc : Nat) (L st : List Value) (ρ : RT) (f : IT) (g : JT) : Prop := V yX11_rests cX11_rests 5 (some .int) 6 0 0 false Q NF NF 0 0 pc L st ρ f g
abbrev C_X11_rests (as : List Value) (ρ : RT) (f : IT) (g : JT) (Q : QT) : Prop := Ct yX11_rests cX11_rests 5 (some .int) 6 0 0 NF NF as ρ f g Q
abbrev V_X11_rule (Q : QT) (pc : Nat) (L st : List Value) (ρ : RT) (f : IT) (g : JT) : Prop := V yX11_rule cX11_rule 5 (some .int) 4 0 0 false Q NF NF 0 0 pc L st ρ f g
abbrev C_X11_rule (as : List Value) (ρ : RT) (f : IT) (g : JT) (Q : QT) : Prop := Ct yX11_rule cX11_rule 5 (some .int) 4 0 0 NF NF as ρ f g Q
abbrev V_X11_run (Q : QT) (pc : Nat) (L st : List Value) (ρ : RT) (f : IT) (g : JT) : Prop := V yX11_run cX11_run 4 (some .int) 7 0 0 false Q NF NF 0 0 pc L st ρ f g
abbrev C_X11_run (as : List Value) (ρ : RT) (f : IT) (g : JT) (Q : QT) : Prop := Ct yX11_run cX11_run 4 (some .int) 7 0 0 NF NF as ρ f g Q
abbrev V_X11_sack (Q : QT) (pc : Nat) (L st : List Value) (ρ : RT) (f : IT) (g : JT) : Prop := V yX11_sack cX11_sack 2 (some .boolean) 0 0 0 false Q NF NF 0 0 pc L st ρ f g
abbrev C_X11_sack (as : List Value) (ρ : RT) (f : IT) (g : JT) (Q : QT) : Prop := Ct yX11_sack cX11_sack 2 (some .boolean) 0 0 0 NF NF as ρ f g Q
abbrev V_X11_safe (Q : QT) (pc : Nat) (L st : List Value) (ρ : RT) (f : IT) (g : JT) : Prop := V yX11_safe cX11_safe 10 (some .int) 7 0 0 false Q NF NF 0 0 pc L st ρ f g
abbrev C_X11_safe (as : List Value) (ρ : RT) (f : IT) (g : JT) (Q : QT) : Prop := Ct yX11_safe cX11_safe 10 (some .int) 7 0 0 NF NF as ρ f g Q
abbrev V_X11_shift (Q : QT) (pc : Nat) (L st : List Value) (ρ : RT) (f : IT) (g : JT) : Prop := V yX11_shift cX11_shift 3 (some .int) 3 0 0 false Q NF NF 0 0 pc L st ρ f g
abbrev C_X11_shift (as : List Value) (ρ : RT) (f : IT) (g : JT) (Q : QT) : Prop := Ct yX11_shift cX11_shift 3 (some .int) 3 0 0 NF NF as ρ f g Q
abbrev V_X11_split (Q : QT) (pc : Nat) (L st : List Value) (ρ : RT) (f : IT) (g : JT) : Prop := V yX11_split cX11_split 4 (some .int) 7 0 0 false Q NF NF 0 0 pc L st ρ f g
abbrev C_X11_split (as : List Value) (ρ : RT) (f : IT) (g : JT) (Q : QT) : Prop := Ct yX11_split cX11_split 4 (some .int) 7 0 0 NF NF as ρ f g Q
abbrev V_X11_steadyTenths (Q : QT) (pc : Nat) (L st : List Value) (ρ : RT) (f : IT) (g : JT) : Prop := V yX11_steadyTenths cX11_steadyTenths 6 (some .int) 5 0 0 false Q NF NF 0 0 pc L st ρ f g
abbrev C_X11_steadyTenths (as : List Value) (ρ : RT) (f : IT) (g : JT) (Q : QT) : Prop := Ct yX11_steadyTenths cX11_steadyTenths 6 (some .int) 5 0 0 NF NF as ρ f g Q
abbrev V_X11_strike (Q : QT) (pc : Nat) (L st : List Value) (ρ : RT) (f : IT) (g : JT) : Prop := V yX11_strike cX11_strike 2 (some .int) 1 0 0 false Q NF NF 0 0 pc L st ρ f g
abbrev C_X11_strike (as : List Value) (ρ : RT) (f : IT) (g : JT) (Q : QT) : Prop := Ct yX11_strike cX11_strike 2 (some .int) 1 0 0 NF NF as ρ f g Q
abbrev V_X11_tapeNumber (Q : QT) (pc : Nat) (L st : List Value) (ρ : RT) (f : IT) (g : JT) : Prop := V yX11_tapeNumber cX11_tapeNumber 3 none 0 0 0 false Q NF NF 0 0 pc L st ρ f g
abbrev C_X11_tapeNumber (as : List Value) (ρ : RT) (f : IT) (g : JT) (Q : QT) : Prop := Ct yX11_tapeNumber cX11_tapeNumber 3 none 0 0 0 NF NF as ρ f g Q
abbrev V_X11_text (Q : QT) (pc : Nat) (L st : List Value) (ρ : RT) (f : IT) (g : JT) : Prop := V yX11_text cX11_text 3 (some .int) 7 0 0 false Q NF NF 0 0 pc L st ρ f g
abbrev C_X11_text (as : List Value) (ρ : RT) (f : IT) (g : JT) (Q : QT) : Prop := Ct yX11_text cX11_text 3 (some .int) 7 0 0 NF NF as ρ f g Q
abbrev V_X11_trained (Q : QT) (pc : Nat) (L st : List Value) (ρ : RT) (f : IT) (g : JT) : Prop := V yX11_trained cX11_trained 5 (some .int) 9 0 0 false Q NF NF 0 0 pc L st ρ f g
abbrev C_X11_trained (as : List Value) (ρ : RT) (f : IT) (g : JT) (Q : QT) : Prop := Ct yX11_trained cX11_trained 5 (some .int) 9 0 0 NF NF as ρ f g Q
abbrev V_X11_undo (Q : QT) (pc : Nat) (L st : List Value) (ρ : RT) (f : IT) (g : JT) : Prop := V yX11_undo cX11_undo 1 (some .int) 1 0 0 false Q NF NF 0 0 pc L st ρ f g
abbrev C_X11_undo (as : List Value) (ρ : RT) (f : IT) (g : JT) (Q : QT) : Prop := Ct yX11_undo cX11_undo 1 (some .int) 1 0 0 NF NF as ρ f g Q
abbrev V_X11_walkAlong (Q : QT) (pc : Nat) (L st : List Value) (ρ : RT) (f : IT) (g : JT) : Prop := V yX11_walkAlong cX11_walkAlong 5 none 6 0 0 false Q NF NF 0 0 pc L st ρ f g
abbrev C_X11_walkAlong (as : List Value) (ρ : RT) (f : IT) (g : JT) (Q : QT) : Prop := Ct yX11_walkAlong cX11_walkAlong 5 none 6 0 0 NF NF as ρ f g Q
abbrev V_X11_walkTells (Q : QT) (pc : Nat) (L st : List Value) (ρ : RT) (f : IT) (g : JT) : Prop := V yX11_walkTells cX11_walkTells 2 (some .int) 1 0 0 false Q NF NF 0 0 pc L st ρ f g
abbrev C_X11_walkTells (as : List Value) (ρ : RT) (f : IT) (g : JT) (Q : QT) : Prop := Ct yX11_walkTells cX11_walkTells 2 (some .int) 1 0 0 NF NF as ρ f g Q
abbrev V_X11_weighed (Q : QT) (pc : Nat) (L st : List Value) (ρ : RT) (f : IT) (g : JT) : Prop := V yX11_weighed cX11_weighed 10 (some .int) 7 0 0 false Q NF NF 0 0 pc L st ρ f g
abbrev C_X11_weighed (as : List Value) (ρ : RT) (f : IT) (g : JT) (Q : QT) : Prop := Ct yX11_weighed cX11_weighed 10 (some .int) 7 0 0 NF NF as ρ f g Q
abbrev V_X11_wins (Q : QT) (pc : Nat) (L st : List Value) (ρ : RT) (f : IT) (g : JT) : Prop := V yX11_wins cX11_wins 11 (some .int) 7 0 0 false Q NF NF 0 0 pc L st ρ f g
abbrev C_X11_wins (as : List Value) (ρ : RT) (f : IT) (g : JT) (Q : QT) : Prop := Ct yX11_wins cX11_wins 11 (some .int) 7 0 0 NF NF as ρ f g Q
abbrev V_X11_wronged (Q : QT) (pc : Nat) (L st : List Value) (ρ : RT) (f : IT) (g : JT) : Prop := V yX11_wronged cX11_wronged 6 (some .int) 3 0 0 false Q NF NF 0 0 pc L st ρ f g
abbrev C_X11_wronged (as : List Value) (ρ : RT) (f : IT) (g : JT) (Q : QT) : Prop := Ct yX11_wronged cX11_wronged 6 (some .int) 3 0 0 NF NF as ρ f g Q
abbrev V_X12_alike (Q : QT) (pc : Nat) (L st : List Value) (ρ : RT) (f : IT) (g : JT) : Prop := V yX12_alike cX12_alike 5 (some .int) 8 0 0 false Q NF NF 0 0 pc L st ρ f g
abbrev C_X12_alike (as : List Value) (ρ : RT) (f : IT) (g : JT) (Q : QT) : Prop := Ct yX12_alike cX12_alike 5 (some .int) 8 0 0 NF NF as ρ f g Q
abbrev V_X12_allSteps (Q : QT) (pc : Nat) (L st : List Value) (ρ : RT) (f : IT) (g : JT) : Prop := V yX12_allSteps cX12_allSteps 3 (some .int) 0 0 0 false Q NF NF 0 0 pc L st ρ f g
abbrev C_X12_allSteps (as : List Value) (ρ : RT) (f : IT) (g : JT) (Q : QT) : Prop := Ct yX12_allSteps cX12_allSteps 3 (some .int) 0 0 0 NF NF as ρ f g Q
abbrev V_X12_back (Q : QT) (pc : Nat) (L st : List Value) (ρ : RT) (f : IT) (g : JT) : Prop := V yX12_back cX12_back 2 (some .int) 0 0 0 false Q NF NF 0 0 pc L st ρ f g
abbrev C_X12_back (as : List Value) (ρ : RT) (f : IT) (g : JT) (Q : QT) : Prop := Ct yX12_back cX12_back 2 (some .int) 0 0 0 NF NF as ρ f g Q
abbrev V_X12_beats (Q : QT) (pc : Nat) (L st : List Value) (ρ : RT) (f : IT) (g : JT) : Prop := V yX12_beats cX12_beats 10 (some .int) 6 0 0 false Q NF NF 0 0 pc L st ρ f g
abbrev C_X12_beats (as : List Value) (ρ : RT) (f : IT) (g : JT) (Q : QT) : Prop := Ct yX12_beats cX12_beats 10 (some .int) 6 0 0 NF NF as ρ f g Q
abbrev V_X12_begins (Q : QT) (pc : Nat) (L st : List Value) (ρ : RT) (f : IT) (g : JT) : Prop := V yX12_begins cX12_begins 2 none 0 0 0 false Q NF NF 0 0 pc L st ρ f g
abbrev C_X12_begins (as : List Value) (ρ : RT) (f : IT) (g : JT) (Q : QT) : Prop := Ct yX12_begins cX12_begins 2 none 0 0 0 NF NF as ρ f g Q
abbrev V_X12_best (Q : QT) (pc : Nat) (L st : List Value) (ρ : RT) (f : IT) (g : JT) : Prop := V yX12_best cX12_best 3 (some .int) 9 0 0 false Q NF NF 0 0 pc L st ρ f g
abbrev C_X12_best (as : List Value) (ρ : RT) (f : IT) (g : JT) (Q : QT) : Prop := Ct yX12_best cX12_best 3 (some .int) 9 0 0 NF NF as ρ f g Q
abbrev V_X12_bestFrom (Q : QT) (pc : Nat) (L st : List Value) (ρ : RT) (f : IT) (g : JT) : Prop := V yX12_bestFrom cX12_bestFrom 5 (some .int) 7 0 0 false Q NF NF 0 0 pc L st ρ f g
abbrev C_X12_bestFrom (as : List Value) (ρ : RT) (f : IT) (g : JT) (Q : QT) : Prop := Ct yX12_bestFrom cX12_bestFrom 5 (some .int) 7 0 0 NF NF as ρ f g Q
abbrev V_X12_bestOf (Q : QT) (pc : Nat) (L st : List Value) (ρ : RT) (f : IT) (g : JT) : Prop := V yX12_bestOf cX12_bestOf 4 (some .int) 8 0 0 false Q NF NF 0 0 pc L st ρ f g
abbrev C_X12_bestOf (as : List Value) (ρ : RT) (f : IT) (g : JT) (Q : QT) : Prop := Ct yX12_bestOf cX12_bestOf 4 (some .int) 8 0 0 NF NF as ρ f g Q
abbrev V_X12_bind (Q : QT) (pc : Nat) (L st : List Value) (ρ : RT) (f : IT) (g : JT) : Prop := V yX12_bind cX12_bind 5 none 1 0 0 false Q NF NF 0 0 pc L st ρ f g
abbrev C_X12_bind (as : List Value) (ρ : RT) (f : IT) (g : JT) (Q : QT) : Prop := Ct yX12_bind cX12_bind 5 none 1 0 0 NF NF as ρ f g Q
abbrev V_X12_boundLaw (Q : QT) (pc : Nat) (L st : List Value) (ρ : RT) (f : IT) (g : JT) : Prop := V yX12_boundLaw cX12_boundLaw 7 (some .int) 3 0 0 false Q NF NF 0 0 pc L st ρ f g
abbrev C_X12_boundLaw (as : List Value) (ρ : RT) (f : IT) (g : JT) (Q : QT) : Prop := Ct yX12_boundLaw cX12_boundLaw 7 (some .int) 3 0 0 NF NF as ρ f g Q
abbrev V_X12_bounded (Q : QT) (pc : Nat) (L st : List Value) (ρ : RT) (f : IT) (g : JT) : Prop := V yX12_bounded cX12_bounded 3 (some .long) 0 0 0 false Q NF NF 0 0 pc L st ρ f g
abbrev C_X12_bounded (as : List Value) (ρ : RT) (f : IT) (g : JT) (Q : QT) : Prop := Ct yX12_bounded cX12_bounded 3 (some .long) 0 0 0 NF NF as ρ f g Q
abbrev V_X12_common (Q : QT) (pc : Nat) (L st : List Value) (ρ : RT) (f : IT) (g : JT) : Prop := V yX12_common cX12_common 10 (some .long) 0 0 0 false Q NF NF 0 0 pc L st ρ f g
abbrev C_X12_common (as : List Value) (ρ : RT) (f : IT) (g : JT) (Q : QT) : Prop := Ct yX12_common cX12_common 10 (some .long) 0 0 0 NF NF as ρ f g Q
abbrev V_X12_compares (Q : QT) (pc : Nat) (L st : List Value) (ρ : RT) (f : IT) (g : JT) : Prop := V yX12_compares cX12_compares 5 (some .boolean) 0 0 0 false Q NF NF 0 0 pc L st ρ f g
abbrev C_X12_compares (as : List Value) (ρ : RT) (f : IT) (g : JT) (Q : QT) : Prop := Ct yX12_compares cX12_compares 5 (some .boolean) 0 0 0 NF NF as ρ f g Q
abbrev V_X12_copies (Q : QT) (pc : Nat) (L st : List Value) (ρ : RT) (f : IT) (g : JT) : Prop := V yX12_copies cX12_copies 3 none 0 0 0 false Q NF NF 0 0 pc L st ρ f g
abbrev C_X12_copies (as : List Value) (ρ : RT) (f : IT) (g : JT) (Q : QT) : Prop := Ct yX12_copies cX12_copies 3 none 0 0 0 NF NF as ρ f g Q
abbrev V_X12_copiesOf (Q : QT) (pc : Nat) (L st : List Value) (ρ : RT) (f : IT) (g : JT) : Prop := V yX12_copiesOf cX12_copiesOf 3 none 0 0 0 false Q NF NF 0 0 pc L st ρ f g
abbrev C_X12_copiesOf (as : List Value) (ρ : RT) (f : IT) (g : JT) (Q : QT) : Prop := Ct yX12_copiesOf cX12_copiesOf 3 none 0 0 0 NF NF as ρ f g Q
abbrev V_X12_corner (Q : QT) (pc : Nat) (L st : List Value) (ρ : RT) (f : IT) (g : JT) : Prop := V yX12_corner cX12_corner 9 (some .int) 5 0 0 false Q NF NF 0 0 pc L st ρ f g
abbrev C_X12_corner (as : List Value) (ρ : RT) (f : IT) (g : JT) (Q : QT) : Prop := Ct yX12_corner cX12_corner 9 (some .int) 5 0 0 NF NF as ρ f g Q
abbrev V_X12_count (Q : QT) (pc : Nat) (L st : List Value) (ρ : RT) (f : IT) (g : JT) : Prop := V yX12_count cX12_count 2 (some .int) 1 0 0 false Q NF NF 0 0 pc L st ρ f g
abbrev C_X12_count (as : List Value) (ρ : RT) (f : IT) (g : JT) (Q : QT) : Prop := Ct yX12_count cX12_count 2 (some .int) 1 0 0 NF NF as ρ f g Q
abbrev V_X12_down (Q : QT) (pc : Nat) (L st : List Value) (ρ : RT) (f : IT) (g : JT) : Prop := V yX12_down cX12_down 9 (some .long) 2 0 0 false Q NF NF 0 0 pc L st ρ f g
abbrev C_X12_down (as : List Value) (ρ : RT) (f : IT) (g : JT) (Q : QT) : Prop := Ct yX12_down cX12_down 9 (some .long) 2 0 0 NF NF as ρ f g Q
abbrev V_X12_drawn1 (Q : QT) (pc : Nat) (L st : List Value) (ρ : RT) (f : IT) (g : JT) : Prop := V yX12_drawn1 cX12_drawn1 2 (some .int) 0 0 0 false Q NF NF 0 0 pc L st ρ f g
abbrev C_X12_drawn1 (as : List Value) (ρ : RT) (f : IT) (g : JT) (Q : QT) : Prop := Ct yX12_drawn1 cX12_drawn1 2 (some .int) 0 0 0 NF NF as ρ f g Q
abbrev V_X12_dropHeld (Q : QT) (pc : Nat) (L st : List Value) (ρ : RT) (f : IT) (g : JT) : Prop := V yX12_dropHeld cX12_dropHeld 1 (some .int) 0 0 0 false Q NF NF 0 0 pc L st ρ f g
abbrev C_X12_dropHeld (as : List Value) (ρ : RT) (f : IT) (g : JT) (Q : QT) : Prop := Ct yX12_dropHeld cX12_dropHeld 1 (some .int) 0 0 0 NF NF as ρ f g Q
abbrev V_X12_errors (Q : QT) (pc : Nat) (L st : List Value) (ρ : RT) (f : IT) (g : JT) : Prop := V yX12_errors cX12_errors 3 (some .int) 3 0 0 false Q NF NF 0 0 pc L st ρ f g
abbrev C_X12_errors (as : List Value) (ρ : RT) (f : IT) (g : JT) (Q : QT) : Prop := Ct yX12_errors cX12_errors 3 (some .int) 3 0 0 NF NF as ρ f g Q
abbrev V_X12_fails (Q : QT) (pc : Nat) (L st : List Value) (ρ : RT) (f : IT) (g : JT) : Prop := V yX12_fails cX12_fails 2 (some .int) 0 0 0 false Q NF NF 0 0 pc L st ρ f g
abbrev C_X12_fails (as : List Value) (ρ : RT) (f : IT) (g : JT) (Q : QT) : Prop := Ct yX12_fails cX12_fails 2 (some .int) 0 0 0 NF NF as ρ f g Q
abbrev V_X12_fault (Q : QT) (pc : Nat) (L st : List Value) (ρ : RT) (f : IT) (g : JT) : Prop := V yX12_fault cX12_fault 2 (some .int) 0 0 0 false Q NF NF 0 0 pc L st ρ f g
abbrev C_X12_fault (as : List Value) (ρ : RT) (f : IT) (g : JT) (Q : QT) : Prop := Ct yX12_fault cX12_fault 2 (some .int) 0 0 0 NF NF as ρ f g Q
abbrev V_X12_feed (Q : QT) (pc : Nat) (L st : List Value) (ρ : RT) (f : IT) (g : JT) : Prop := V yX12_feed cX12_feed 8 (some .int) 0 0 0 false Q NF NF 0 0 pc L st ρ f g
abbrev C_X12_feed (as : List Value) (ρ : RT) (f : IT) (g : JT) (Q : QT) : Prop := Ct yX12_feed cX12_feed 8 (some .int) 0 0 0 NF NF as ρ f g Q
abbrev V_X12_find (Q : QT) (pc : Nat) (L st : List Value) (ρ : RT) (f : IT) (g : JT) : Prop := V yX12_find cX12_find 5 (some .int) 0 0 0 false Q NF NF 0 0 pc L st ρ f g
abbrev C_X12_find (as : List Value) (ρ : RT) (f : IT) (g : JT) (Q : QT) : Prop := Ct yX12_find cX12_find 5 (some .int) 0 0 0 NF NF as ρ f g Q
abbrev V_X12_fits (Q : QT) (pc : Nat) (L st : List Value) (ρ : RT) (f : IT) (g : JT) : Prop := V yX12_fits cX12_fits 3 (some .int) 8 0 0 false Q NF NF 0 0 pc L st ρ f g
abbrev C_X12_fits (as : List Value) (ρ : RT) (f : IT) (g : JT) (Q : QT) : Prop := Ct yX12_fits cX12_fits 3 (some .int) 8 0 0 NF NF as ρ f g Q
abbrev V_X12_flat (Q : QT) (pc : Nat) (L st : List Value) (ρ : RT) (f : IT) (g : JT) : Prop := V yX12_flat cX12_flat 3 (some .int) 8 0 0 false Q NF NF 0 0 pc L st ρ f g
abbrev C_X12_flat (as : List Value) (ρ : RT) (f : IT) (g : JT) (Q : QT) : Prop := Ct yX12_flat cX12_flat 3 (some .int) 8 0 0 NF NF as ρ f g Q
abbrev V_X12_go (Q : QT) (pc : Nat) (L st : List Value) (ρ : RT) (f : IT) (g : JT) : Prop := V yX12_go cX12_go 3 (some .int) 6 0 0 false Q NF NF 0 0 pc L st ρ f g
abbrev C_X12_go (as : List Value) (ρ : RT) (f : IT) (g : JT) (Q : QT) : Prop := Ct yX12_go cX12_go 3 (some .int) 6 0 0 NF NF as ρ f g Q
abbrev V_X12_grown (Q : QT) (pc : Nat) (L st : List Value) (ρ : RT) (f : IT) (g : JT) : Prop := V yX12_grown cX12_grown 4 none 0 0 0 false Q NF NF 0 0 pc L st ρ f g
abbrev C_X12_grown (as : List Value) (ρ : RT) (f : IT) (g : JT) (Q : QT) : Prop := Ct yX12_grown cX12_grown 4 none 0 0 0 NF NF as ρ f g Q
abbrev V_X12_held (Q : QT) (pc : Nat) (L st : List Value) (ρ : RT) (f : IT) (g : JT) : Prop := V yX12_held cX12_held 7 (some .int) 9 0 0 false Q NF NF 0 0 pc L st ρ f g
abbrev C_X12_held (as : List Value) (ρ : RT) (f : IT) (g : JT) (Q : QT) : Prop := Ct yX12_held cX12_held 7 (some .int) 9 0 0 NF NF as ρ f g Q
abbrev V_X12_holdLine (Q : QT) (pc : Nat) (L st : List Value) (ρ : RT) (f : IT) (g : JT) : Prop := V yX12_holdLine cX12_holdLine 2 (some .boolean) 3 0 0 false Q NF NF 0 0 pc L st ρ f g
abbrev C_X12_holdLine (as : List Value) (ρ : RT) (f : IT) (g : JT) (Q : QT) : Prop := Ct yX12_holdLine cX12_holdLine 2 (some .boolean) 3 0 0 NF NF as ρ f g Q
abbrev V_X12_inForm (Q : QT) (pc : Nat) (L st : List Value) (ρ : RT) (f : IT) (g : JT) : Prop := V yX12_inForm cX12_inForm 1 (some .int) 0 0 0 false Q NF NF 0 0 pc L st ρ f g
abbrev C_X12_inForm (as : List Value) (ρ : RT) (f : IT) (g : JT) (Q : QT) : Prop := Ct yX12_inForm cX12_inForm 1 (some .int) 0 0 0 NF NF as ρ f g Q
abbrev V_X12_insideOf (Q : QT) (pc : Nat) (L st : List Value) (ρ : RT) (f : IT) (g : JT) : Prop := V yX12_insideOf cX12_insideOf 3 (some .int) 0 0 0 false Q NF NF 0 0 pc L st ρ f g
abbrev C_X12_insideOf (as : List Value) (ρ : RT) (f : IT) (g : JT) (Q : QT) : Prop := Ct yX12_insideOf cX12_insideOf 3 (some .int) 0 0 0 NF NF as ρ f g Q
abbrev V_X12_isCorner (Q : QT) (pc : Nat) (L st : List Value) (ρ : RT) (f : IT) (g : JT) : Prop := V yX12_isCorner cX12_isCorner 3 (some .boolean) 1 0 0 false Q NF NF 0 0 pc L st ρ f g
abbrev C_X12_isCorner (as : List Value) (ρ : RT) (f : IT) (g : JT) (Q : QT) : Prop := Ct yX12_isCorner cX12_isCorner 3 (some .boolean) 1 0 0 NF NF as ρ f g Q
abbrev V_X12_isCounted (Q : QT) (pc : Nat) (L st : List Value) (ρ : RT) (f : IT) (g : JT) : Prop := V yX12_isCounted cX12_isCounted 1 (some .boolean) 1 0 0 false Q NF NF 0 0 pc L st ρ f g
abbrev C_X12_isCounted (as : List Value) (ρ : RT) (f : IT) (g : JT) (Q : QT) : Prop := Ct yX12_isCounted cX12_isCounted 1 (some .boolean) 1 0 0 NF NF as ρ f g Q
abbrev V_X12_isDamp (Q : QT) (pc : Nat) (L st : List Value) (ρ : RT) (f : IT) (g : JT) : Prop := V yX12_isDamp cX12_isDamp 2 (some .boolean) 0 0 0 false Q NF NF 0 0 pc L st ρ f g
abbrev C_X12_isDamp (as : List Value) (ρ : RT) (f : IT) (g : JT) (Q : QT) : Prop := Ct yX12_isDamp cX12_isDamp 2 (some .boolean) 0 0 0 NF NF as ρ f g Q
abbrev V_X12_isDigit (Q : QT) (pc : Nat) (L st : List Value) (ρ : RT) (f : IT) (g : JT) : Prop := V yX12_isDigit cX12_isDigit 2 (some .boolean) 0 0 0 false Q NF NF 0 0 pc L st ρ f g
abbrev C_X12_isDigit (as : List Value) (ρ : RT) (f : IT) (g : JT) (Q : QT) : Prop := Ct yX12_isDigit cX12_isDigit 2 (some .boolean) 0 0 0 NF NF as ρ f g Q
abbrev V_X12_isGoing (Q : QT) (pc : Nat) (L st : List Value) (ρ : RT) (f : IT) (g : JT) : Prop := V yX12_isGoing cX12_isGoing 1 (some .boolean) 1 0 0 false Q NF NF 0 0 pc L st ρ f g
abbrev C_X12_isGoing (as : List Value) (ρ : RT) (f : IT) (g : JT) (Q : QT) : Prop := Ct yX12_isGoing cX12_isGoing 1 (some .boolean) 1 0 0 NF NF as ρ f g Q
abbrev V_X12_isHold (Q : QT) (pc : Nat) (L st : List Value) (ρ : RT) (f : IT) (g : JT) : Prop := V yX12_isHold cX12_isHold 2 (some .boolean) 0 0 0 false Q NF NF 0 0 pc L st ρ f g
abbrev C_X12_isHold (as : List Value) (ρ : RT) (f : IT) (g : JT) (Q : QT) : Prop := Ct yX12_isHold cX12_isHold 2 (some .boolean) 0 0 0 NF NF as ρ f g Q
abbrev V_X12_isIn (Q : QT) (pc : Nat) (L st : List Value) (ρ : RT) (f : IT) (g : JT) : Prop := V yX12_isIn cX12_isIn 3 (some .boolean) 0 0 0 false Q NF NF 0 0 pc L st ρ f g
abbrev C_X12_isIn (as : List Value) (ρ : RT) (f : IT) (g : JT) (Q : QT) : Prop := Ct yX12_isIn cX12_isIn 3 (some .boolean) 0 0 0 NF NF as ρ f g Q
abbrev V_X12_isKey (Q : QT) (pc : Nat) (L st : List Value) (ρ : RT) (f : IT) (g : JT) : Prop := V yX12_isKey cX12_isKey 2 (some .boolean) 0 0 0 false Q NF NF 0 0 pc L st ρ f g
abbrev C_X12_isKey (as : List Value) (ρ : RT) (f : IT) (g : JT) (Q : QT) : Prop := Ct yX12_isKey cX12_isKey 2 (some .boolean) 0 0 0 NF NF as ρ f g Q
abbrev V_X12_isLane (Q : QT) (pc : Nat) (L st : List Value) (ρ : RT) (f : IT) (g : JT) : Prop := V yX12_isLane cX12_isLane 2 (some .boolean) 0 0 0 false Q NF NF 0 0 pc L st ρ f g
abbrev C_X12_isLane (as : List Value) (ρ : RT) (f : IT) (g : JT) (Q : QT) : Prop := Ct yX12_isLane cX12_isLane 2 (some .boolean) 0 0 0 NF NF as ρ f g Q
abbrev V_X12_isMan (Q : QT) (pc : Nat) (L st : List Value) (ρ : RT) (f : IT) (g : JT) : Prop := V yX12_isMan cX12_isMan 2 (some .boolean) 0 0 0 false Q NF NF 0 0 pc L st ρ f g
abbrev C_X12_isMan (as : List Value) (ρ : RT) (f : IT) (g : JT) (Q : QT) : Prop := Ct yX12_isMan cX12_isMan 2 (some .boolean) 0 0 0 NF NF as ρ f g Q
abbrev V_X12_isOf (Q : QT) (pc : Nat) (L st : List Value) (ρ : RT) (f : IT) (g : JT) : Prop := V yX12_isOf cX12_isOf 2 (some .boolean) 0 0 0 false Q NF NF 0 0 pc L st ρ f g
abbrev C_X12_isOf (as : List Value) (ρ : RT) (f : IT) (g : JT) (Q : QT) : Prop := Ct yX12_isOf cX12_isOf 2 (some .boolean) 0 0 0 NF NF as ρ f g Q
abbrev V_X12_isPlan (Q : QT) (pc : Nat) (L st : List Value) (ρ : RT) (f : IT) (g : JT) : Prop := V yX12_isPlan cX12_isPlan 2 (some .boolean) 0 0 0 false Q NF NF 0 0 pc L st ρ f g
abbrev C_X12_isPlan (as : List Value) (ρ : RT) (f : IT) (g : JT) (Q : QT) : Prop := Ct yX12_isPlan cX12_isPlan 2 (some .boolean) 0 0 0 NF NF as ρ f g Q
abbrev V_X12_isRest (Q : QT) (pc : Nat) (L st : List Value) (ρ : RT) (f : IT) (g : JT) : Prop := V yX12_isRest cX12_isRest 4 (some .boolean) 2 0 0 false Q NF NF 0 0 pc L st ρ f g
abbrev C_X12_isRest (as : List Value) (ρ : RT) (f : IT) (g : JT) (Q : QT) : Prop := Ct yX12_isRest cX12_isRest 4 (some .boolean) 2 0 0 NF NF as ρ f g Q
abbrev V_X12_isSign (Q : QT) (pc : Nat) (L st : List Value) (ρ : RT) (f : IT) (g : JT) : Prop := V yX12_isSign cX12_isSign 2 (some .boolean) 0 0 0 false Q NF NF 0 0 pc L st ρ f g
abbrev C_X12_isSign (as : List Value) (ρ : RT) (f : IT) (g : JT) (Q : QT) : Prop := Ct yX12_isSign cX12_isSign 2 (some .boolean) 0 0 0 NF NF as ρ f g Q
abbrev V_X12_isSmall (Q : QT) (pc : Nat) (L st : List Value) (ρ : RT) (f : IT) (g : JT) : Prop := V yX12_isSmall cX12_isSmall 2 (some .boolean) 0 0 0 false Q NF NF 0 0 pc L st ρ f g
abbrev C_X12_isSmall (as : List Value) (ρ : RT) (f : IT) (g : JT) (Q : QT) : Prop := Ct yX12_isSmall cX12_isSmall 2 (some .boolean) 0 0 0 NF NF as ρ f g Q
abbrev V_X12_isSo (Q : QT) (pc : Nat) (L st : List Value) (ρ : RT) (f : IT) (g : JT) : Prop := V yX12_isSo cX12_isSo 5 (some .boolean) 6 0 0 false Q NF NF 0 0 pc L st ρ f g
abbrev C_X12_isSo (as : List Value) (ρ : RT) (f : IT) (g : JT) (Q : QT) : Prop := Ct yX12_isSo cX12_isSo 5 (some .boolean) 6 0 0 NF NF as ρ f g Q
abbrev V_X12_judgeLine (Q : QT) (pc : Nat) (L st : List Value) (ρ : RT) (f : IT) (g : JT) : Prop := V yX12_judgeLine cX12_judgeLine 2 (some .boolean) 3 0 0 false Q NF NF 0 0 pc L st ρ f g
abbrev C_X12_judgeLine (as : List Value) (ρ : RT) (f : IT) (g : JT) (Q : QT) : Prop := Ct yX12_judgeLine cX12_judgeLine 2 (some .boolean) 3 0 0 NF NF as ρ f g Q
abbrev V_X12_keep (Q : QT) (pc : Nat) (L st : List Value) (ρ : RT) (f : IT) (g : JT) : Prop := V yX12_keep cX12_keep 2 (some .int) 0 0 0 false Q NF NF 0 0 pc L st ρ f g
abbrev C_X12_keep (as : List Value) (ρ : RT) (f : IT) (g : JT) (Q : QT) : Prop := Ct yX12_keep cX12_keep 2 (some .int) 0 0 0 NF NF as ρ f g Q
abbrev V_X12_keepText (Q : QT) (pc : Nat) (L st : List Value) (ρ : RT) (f : IT) (g : JT) : Prop := V yX12_keepText cX12_keepText 1 none 1 0 0 false Q NF NF 0 0 pc L st ρ f g
abbrev C_X12_keepText (as : List Value) (ρ : RT) (f : IT) (g : JT) (Q : QT) : Prop := Ct yX12_keepText cX12_keepText 1 none 1 0 0 NF NF as ρ f g Q
abbrev V_X12_known (Q : QT) (pc : Nat) (L st : List Value) (ρ : RT) (f : IT) (g : JT) : Prop := V yX12_known cX12_known 2 (some .boolean) 1 0 0 false Q NF NF 0 0 pc L st ρ f g
abbrev C_X12_known (as : List Value) (ρ : RT) (f : IT) (g : JT) (Q : QT) : Prop := Ct yX12_known cX12_known 2 (some .boolean) 1 0 0 NF NF as ρ f g Q
abbrev V_X12_knownBy (Q : QT) (pc : Nat) (L st : List Value) (ρ : RT) (f : IT) (g : JT) : Prop := V yX12_knownBy cX12_knownBy 1 (some .int) 0 0 0 false Q NF NF 0 0 pc L st ρ f g
abbrev C_X12_knownBy (as : List Value) (ρ : RT) (f : IT) (g : JT) (Q : QT) : Prop := Ct yX12_knownBy cX12_knownBy 1 (some .int) 0 0 0 NF NF as ρ f g Q
abbrev V_X12_laneAt (Q : QT) (pc : Nat) (L st : List Value) (ρ : RT) (f : IT) (g : JT) : Prop := V yX12_laneAt cX12_laneAt 4 (some .int) 0 0 0 false Q NF NF 0 0 pc L st ρ f g
abbrev C_X12_laneAt (as : List Value) (ρ : RT) (f : IT) (g : JT) (Q : QT) : Prop := Ct yX12_laneAt cX12_laneAt 4 (some .int) 0 0 0 NF NF as ρ f g Q
abbrev V_X12_laneLine (Q : QT) (pc : Nat) (L st : List Value) (ρ : RT) (f : IT) (g : JT) : Prop := V yX12_laneLine cX12_laneLine 2 (some .boolean) 3 0 0 false Q NF NF 0 0 pc L st ρ f g
abbrev C_X12_laneLine (as : List Value) (ρ : RT) (f : IT) (g : JT) (Q : QT) : Prop := Ct yX12_laneLine cX12_laneLine 2 (some .boolean) 3 0 0 NF NF as ρ f g Q
abbrev V_X12_law (Q : QT) (pc : Nat) (L st : List Value) (ρ : RT) (f : IT) (g : JT) : Prop := V yX12_law cX12_law 7 (some .long) 3 0 0 false Q NF NF 0 0 pc L st ρ f g
abbrev C_X12_law (as : List Value) (ρ : RT) (f : IT) (g : JT) (Q : QT) : Prop := Ct yX12_law cX12_law 7 (some .long) 3 0 0 NF NF as ρ f g Q
abbrev V_X12_lawLine (Q : QT) (pc : Nat) (L st : List Value) (ρ : RT) (f : IT) (g : JT) : Prop := V yX12_lawLine cX12_lawLine 2 (some .boolean) 4 0 0 false Q NF NF 0 0 pc L st ρ f g
abbrev C_X12_lawLine (as : List Value) (ρ : RT) (f : IT) (g : JT) (Q : QT) : Prop := Ct yX12_lawLine cX12_lawLine 2 (some .boolean) 4 0 0 NF NF as ρ f g Q
abbrev V_X12_lawOf (Q : QT) (pc : Nat) (L st : List Value) (ρ : RT) (f : IT) (g : JT) : Prop := V yX12_lawOf cX12_lawOf 3 (some .long) 2 0 0 false Q NF NF 0 0 pc L st ρ f g
abbrev C_X12_lawOf (as : List Value) (ρ : RT) (f : IT) (g : JT) (Q : QT) : Prop := Ct yX12_lawOf cX12_lawOf 3 (some .long) 2 0 0 NF NF as ρ f g Q
abbrev V_X12_layCorner (Q : QT) (pc : Nat) (L st : List Value) (ρ : RT) (f : IT) (g : JT) : Prop := V yX12_layCorner cX12_layCorner 4 none 4 0 0 false Q NF NF 0 0 pc L st ρ f g
abbrev C_X12_layCorner (as : List Value) (ρ : RT) (f : IT) (g : JT) (Q : QT) : Prop := Ct yX12_layCorner cX12_layCorner 4 none 4 0 0 NF NF as ρ f g Q
abbrev V_X12_layCounts (Q : QT) (pc : Nat) (L st : List Value) (ρ : RT) (f : IT) (g : JT) : Prop := V yX12_layCounts cX12_layCounts 2 none 1 0 0 false Q NF NF 0 0 pc L st ρ f g
abbrev C_X12_layCounts (as : List Value) (ρ : RT) (f : IT) (g : JT) (Q : QT) : Prop := Ct yX12_layCounts cX12_layCounts 2 none 1 0 0 NF NF as ρ f g Q
abbrev V_X12_layFits (Q : QT) (pc : Nat) (L st : List Value) (ρ : RT) (f : IT) (g : JT) : Prop := V yX12_layFits cX12_layFits 4 none 7 0 0 false Q NF NF 0 0 pc L st ρ f g
abbrev C_X12_layFits (as : List Value) (ρ : RT) (f : IT) (g : JT) (Q : QT) : Prop := Ct yX12_layFits cX12_layFits 4 none 7 0 0 NF NF as ρ f g Q
abbrev V_X12_layLeast (Q : QT) (pc : Nat) (L st : List Value) (ρ : RT) (f : IT) (g : JT) : Prop := V yX12_layLeast cX12_layLeast 7 none 6 0 0 false Q NF NF 0 0 pc L st ρ f g
abbrev C_X12_layLeast (as : List Value) (ρ : RT) (f : IT) (g : JT) (Q : QT) : Prop := Ct yX12_layLeast cX12_layLeast 7 none 6 0 0 NF NF as ρ f g Q
abbrev V_X12_layNames (Q : QT) (pc : Nat) (L st : List Value) (ρ : RT) (f : IT) (g : JT) : Prop := V yX12_layNames cX12_layNames 3 none 1 0 0 false Q NF NF 0 0 pc L st ρ f g
abbrev C_X12_layNames (as : List Value) (ρ : RT) (f : IT) (g : JT) (Q : QT) : Prop := Ct yX12_layNames cX12_layNames 3 none 1 0 0 NF NF as ρ f g Q
abbrev V_X12_layReached (Q : QT) (pc : Nat) (L st : List Value) (ρ : RT) (f : IT) (g : JT) : Prop := V yX12_layReached cX12_layReached 6 none 6 0 0 false Q NF NF 0 0 pc L st ρ f g
abbrev C_X12_layReached (as : List Value) (ρ : RT) (f : IT) (g : JT) (Q : QT) : Prop := Ct yX12_layReached cX12_layReached 6 none 6 0 0 NF NF as ρ f g Q
abbrev V_X12_layTrained (Q : QT) (pc : Nat) (L st : List Value) (ρ : RT) (f : IT) (g : JT) : Prop := V yX12_layTrained cX12_layTrained 13 none 4 0 0 false Q NF NF 0 0 pc L st ρ f g
abbrev C_X12_layTrained (as : List Value) (ρ : RT) (f : IT) (g : JT) (Q : QT) : Prop := Ct yX12_layTrained cX12_layTrained 13 none 4 0 0 NF NF as ρ f g Q
abbrev V_X12_leafRead (Q : QT) (pc : Nat) (L st : List Value) (ρ : RT) (f : IT) (g : JT) : Prop := V yX12_leafRead cX12_leafRead 2 (some .boolean) 2 0 0 false Q NF NF 0 0 pc L st ρ f g
abbrev C_X12_leafRead (as : List Value) (ρ : RT) (f : IT) (g : JT) (Q : QT) : Prop := Ct yX12_leafRead cX12_leafRead 2 (some .boolean) 2 0 0 NF NF as ρ f g Q
abbrev V_X12_led (Q : QT) (pc : Nat) (L st : List Value) (ρ : RT) (f : IT) (g : JT) : Prop := V yX12_led cX12_led 6 (some .int) 5 0 0 false Q NF NF 0 0 pc L st ρ f g
abbrev C_X12_led (as : List Value) (ρ : RT) (f : IT) (g : JT) (Q : QT) : Prop := Ct yX12_led cX12_led 6 (some .int) 5 0 0 NF NF as ρ f g Q
abbrev V_X12_likelyOf (Q : QT) (pc : Nat) (L st : List Value) (ρ : RT) (f : IT) (g : JT) : Prop := V yX12_likelyOf cX12_likelyOf 8 (some .int) 2 0 0 false Q NF NF 0 0 pc L st ρ f g
abbrev C_X12_likelyOf (as : List Value) (ρ : RT) (f : IT) (g : JT) (Q : QT) : Prop := Ct yX12_likelyOf cX12_likelyOf 8 (some .int) 2 0 0 NF NF as ρ f g Q
abbrev V_X12_lineRead (Q : QT) (pc : Nat) (L st : List Value) (ρ : RT) (f : IT) (g : JT) : Prop := V yX12_lineRead cX12_lineRead 2 (some .boolean) 5 0 0 false Q NF NF 0 0 pc L st ρ f g
abbrev C_X12_lineRead (as : List Value) (ρ : RT) (f : IT) (g : JT) (Q : QT) : Prop := Ct yX12_lineRead cX12_lineRead 2 (some .boolean) 5 0 0 NF NF as ρ f g Q
abbrev V_X12_look (Q : QT) (pc : Nat) (L st : List Value) (ρ : RT) (f : IT) (g : JT) : Prop := V yX12_look cX12_look 3 (some .int) 1 0 0 false Q NF NF 0 0 pc L st ρ f g
abbrev C_X12_look (as : List Value) (ρ : RT) (f : IT) (g : JT) (Q : QT) : Prop := Ct yX12_look cX12_look 3 (some .int) 1 0 0 NF NF as ρ f g Q
abbrev V_X12_lossOf (Q : QT) (pc : Nat) (L st : List Value) (ρ : RT) (f : IT) (g : JT) : Prop := V yX12_lossOf cX12_lossOf 3 (some .int) 1 0 0 false Q NF NF 0 0 pc L st ρ f g
abbrev C_X12_lossOf (as : List Value) (ρ : RT) (f : IT) (g : JT) (Q : QT) : Prop := Ct yX12_lossOf cX12_lossOf 3 (some .int) 1 0 0 NF NF as ρ f g Q
abbrev V_X12_manLine (Q : QT) (pc : Nat) (L st : List Value) (ρ : RT) (f : IT) (g : JT) : Prop := V yX12_manLine cX12_manLine 2 (some .boolean) 3 0 0 false Q NF NF 0 0 pc L st ρ f g
abbrev C_X12_manLine (as : List Value) (ρ : RT) (f : IT) (g : JT) (Q : QT) : Prop := Ct yX12_manLine cX12_manLine 2 (some .boolean) 3 0 0 NF NF as ρ f g Q
abbrev V_X12_nameMet (Q : QT) (pc : Nat) (L st : List Value) (ρ : RT) (f : IT) (g : JT) : Prop := V yX12_nameMet cX12_nameMet 1 (some .int) 0 0 0 false Q NF NF 0 0 pc L st ρ f g
abbrev C_X12_nameMet (as : List Value) (ρ : RT) (f : IT) (g : JT) (Q : QT) : Prop := Ct yX12_nameMet cX12_nameMet 1 (some .int) 0 0 0 NF NF as ρ f g Q
abbrev V_X12_named (Q : QT) (pc : Nat) (L st : List Value) (ρ : RT) (f : IT) (g : JT) : Prop := V yX12_named cX12_named 3 (some .int) 1 0 0 false Q NF NF 0 0 pc L st ρ f g
abbrev C_X12_named (as : List Value) (ρ : RT) (f : IT) (g : JT) (Q : QT) : Prop := Ct yX12_named cX12_named 3 (some .int) 1 0 0 NF NF as ρ f g Q
abbrev V_X12_newName (Q : QT) (pc : Nat) (L st : List Value) (ρ : RT) (f : IT) (g : JT) : Prop := V yX12_newName cX12_newName 4 (some .boolean) 2 0 0 false Q NF NF 0 0 pc L st ρ f g
abbrev C_X12_newName (as : List Value) (ρ : RT) (f : IT) (g : JT) (Q : QT) : Prop := Ct yX12_newName cX12_newName 4 (some .boolean) 2 0 0 NF NF as ρ f g Q
abbrev V_X12_note (Q : QT) (pc : Nat) (L st : List Value) (ρ : RT) (f : IT) (g : JT) : Prop := V yX12_note cX12_note 5 (some .int) 1 0 0 false Q NF NF 0 0 pc L st ρ f g
abbrev C_X12_note (as : List Value) (ρ : RT) (f : IT) (g : JT) (Q : QT) : Prop := Ct yX12_note cX12_note 5 (some .int) 1 0 0 NF NF as ρ f g Q
abbrev V_X12_noted (Q : QT) (pc : Nat) (L st : List Value) (ρ : RT) (f : IT) (g : JT) : Prop := V yX12_noted cX12_noted 5 (some .int) 0 0 0 false Q NF NF 0 0 pc L st ρ f g
abbrev C_X12_noted (as : List Value) (ρ : RT) (f : IT) (g : JT) (Q : QT) : Prop := Ct yX12_noted cX12_noted 5 (some .int) 0 0 0 NF NF as ρ f g Q
abbrev V_X12_now (Q : QT) (pc : Nat) (L st : List Value) (ρ : RT) (f : IT) (g : JT) : Prop := V yX12_now cX12_now 2 (some .int) 2 0 0 false Q NF NF 0 0 pc L st ρ f g
abbrev C_X12_now (as : List Value) (ρ : RT) (f : IT) (g : JT) (Q : QT) : Prop := Ct yX12_now cX12_now 2 (some .int) 2 0 0 NF NF as ρ f g Q
abbrev V_X12_number (Q : QT) (pc : Nat) (L st : List Value) (ρ : RT) (f : IT) (g : JT) : Prop := V yX12_number cX12_number 3 (some .boolean) 2 0 0 false Q NF NF 0 0 pc L st ρ f g
abbrev C_X12_number (as : List Value) (ρ : RT) (f : IT) (g : JT) (Q : QT) : Prop := Ct yX12_number cX12_number 3 (some .boolean) 2 0 0 NF NF as ρ f g Q
abbrev V_X12_pace (Q : QT) (pc : Nat) (L st : List Value) (ρ : RT) (f : IT) (g : JT) : Prop := V yX12_pace cX12_pace 3 (some .int) 1 0 0 false Q NF NF 0 0 pc L st ρ f g
abbrev C_X12_pace (as : List Value) (ρ : RT) (f : IT) (g : JT) (Q : QT) : Prop := Ct yX12_pace cX12_pace 3 (some .int) 1 0 0 NF NF as ρ f g Q
abbrev V_X12_paceOf (Q : QT) (pc : Nat) (L st : List Value) (ρ : RT) (f : IT) (g : JT) : Prop := V yX12_paceOf cX12_paceOf 3 (some .int) 0 0 0 false Q NF NF 0 0 pc L st ρ f g
abbrev C_X12_paceOf (as : List Value) (ρ : RT) (f : IT) (g : JT) (Q : QT) : Prop := Ct yX12_paceOf cX12_paceOf 3 (some .int) 0 0 0 NF NF as ρ f g Q
abbrev V_X12_paced (Q : QT) (pc : Nat) (L st : List Value) (ρ : RT) (f : IT) (g : JT) : Prop := V yX12_paced cX12_paced 2 (some .boolean) 2 0 0 false Q NF NF 0 0 pc L st ρ f g
abbrev C_X12_paced (as : List Value) (ρ : RT) (f : IT) (g : JT) (Q : QT) : Prop := Ct yX12_paced cX12_paced 2 (some .boolean) 2 0 0 NF NF as ρ f g Q
abbrev V_X12_paces (Q : QT) (pc : Nat) (L st : List Value) (ρ : RT) (f : IT) (g : JT) : Prop := V yX12_paces cX12_paces 7 (some .int) 9 0 0 false Q NF NF 0 0 pc L st ρ f g
abbrev C_X12_paces (as : List Value) (ρ : RT) (f : IT) (g : JT) (Q : QT) : Prop := Ct yX12_paces cX12_paces 7 (some .int) 9 0 0 NF NF as ρ f g Q
abbrev V_X12_packed (Q : QT) (pc : Nat) (L st : List Value) (ρ : RT) (f : IT) (g : JT) : Prop := V yX12_packed cX12_packed 5 (some .int) 0 0 0 false Q NF NF 0 0 pc L st ρ f g
abbrev C_X12_packed (as : List Value) (ρ : RT) (f : IT) (g : JT) (Q : QT) : Prop := Ct yX12_packed cX12_packed 5 (some .int) 0 0 0 NF NF as ρ f g Q
abbrev V_X12_plain (Q : QT) (pc : Nat) (L st : List Value) (ρ : RT) (f : IT) (g : JT) : Prop := V yX12_plain cX12_plain 2 none 0 0 0 false Q NF NF 0 0 pc L st ρ f g
abbrev C_X12_plain (as : List Value) (ρ : RT) (f : IT) (g : JT) (Q : QT) : Prop := Ct yX12_plain cX12_plain 2 none 0 0 0 NF NF as ρ f g Q
abbrev V_X12_planLine (Q : QT) (pc : Nat) (L st : List Value) (ρ : RT) (f : IT) (g : JT) : Prop := V yX12_planLine cX12_planLine 4 (some .boolean) 3 0 0 false Q NF NF 0 0 pc L st ρ f g
abbrev C_X12_planLine (as : List Value) (ρ : RT) (f : IT) (g : JT) (Q : QT) : Prop := Ct yX12_planLine cX12_planLine 4 (some .boolean) 3 0 0 NF NF as ρ f g Q
abbrev V_X12_quick (Q : QT) (pc : Nat) (L st : List Value) (ρ : RT) (f : IT) (g : JT) : Prop := V yX12_quick cX12_quick 6 (some .int) 9 0 0 false Q NF NF 0 0 pc L st ρ f g
abbrev C_X12_quick (as : List Value) (ρ : RT) (f : IT) (g : JT) (Q : QT) : Prop := Ct yX12_quick cX12_quick 6 (some .int) 9 0 0 NF NF as ρ f g Q
abbrev V_X12_race (Q : QT) (pc : Nat) (L st : List Value) (ρ : RT) (f : IT) (g : JT) : Prop := V yX12_race cX12_race 3 (some .boolean) 1 0 0 false Q NF NF 0 0 pc L st ρ f g
abbrev C_X12_race (as : List Value) (ρ : RT) (f : IT) (g : JT) (Q : QT) : Prop := Ct yX12_race cX12_race 3 (some .boolean) 1 0 0 NF NF as ρ f g Q
abbrev V_X12_racePace (Q : QT) (pc : Nat) (L st : List Value) (ρ : RT) (f : IT) (g : JT) : Prop := V yX12_racePace cX12_racePace 1 (some .int) 1 0 0 false Q NF NF 0 0 pc L st ρ f g
abbrev C_X12_racePace (as : List Value) (ρ : RT) (f : IT) (g : JT) (Q : QT) : Prop := Ct yX12_racePace cX12_racePace 1 (some .int) 1 0 0 NF NF as ρ f g Q
abbrev V_X12_raceStep (Q : QT) (pc : Nat) (L st : List Value) (ρ : RT) (f : IT) (g : JT) : Prop := V yX12_raceStep cX12_raceStep 2 none 5 0 0 false Q NF NF 0 0 pc L st ρ f g
abbrev C_X12_raceStep (as : List Value) (ρ : RT) (f : IT) (g : JT) (Q : QT) : Prop := Ct yX12_raceStep cX12_raceStep 2 none 5 0 0 NF NF as ρ f g Q
abbrev V_X12_races (Q : QT) (pc : Nat) (L st : List Value) (ρ : RT) (f : IT) (g : JT) : Prop := V yX12_races cX12_races 6 (some .int) 5 0 0 false Q NF NF 0 0 pc L st ρ f g
abbrev C_X12_races (as : List Value) (ρ : RT) (f : IT) (g : JT) (Q : QT) : Prop := Ct yX12_races cX12_races 6 (some .int) 5 0 0 NF NF as ρ f g Q
abbrev V_X12_rain (Q : QT) (pc : Nat) (L st : List Value) (ρ : RT) (f : IT) (g : JT) : Prop := V yX12_rain cX12_rain 4 (some .int) 1 0 0 false Q NF NF 0 0 pc L st ρ f g
abbrev C_X12_rain (as : List Value) (ρ : RT) (f : IT) (g : JT) (Q : QT) : Prop := Ct yX12_rain cX12_rain 4 (some .int) 1 0 0 NF NF as ρ f g Q
abbrev V_X12_rank (Q : QT) (pc : Nat) (L st : List Value) (ρ : RT) (f : IT) (g : JT) : Prop := V yX12_rank cX12_rank 1 (some .int) 0 0 0 false Q NF NF 0 0 pc L st ρ f g
abbrev C_X12_rank (as : List Value) (ρ : RT) (f : IT) (g : JT) (Q : QT) : Prop := Ct yX12_rank cX12_rank 1 (some .int) 0 0 0 NF NF as ρ f g Q
abbrev V_X12_remember (Q : QT) (pc : Nat) (L st : List Value) (ρ : RT) (f : IT) (g : JT) : Prop := V yX12_remember cX12_remember 2 none 0 0 0 false Q NF NF 0 0 pc L st ρ f g
abbrev C_X12_remember (as : List Value) (ρ : RT) (f : IT) (g : JT) (Q : QT) : Prop := Ct yX12_remember cX12_remember 2 none 0 0 0 NF NF as ρ f g Q
abbrev V_X12_rest (Q : QT) (pc : Nat) (L st : List Value) (ρ : RT) (f : IT) (g : JT) : Prop := V yX12_rest cX12_rest 4 (some .int) 6 0 0 false Q NF NF 0 0 pc L st ρ f g
abbrev C_X12_rest (as : List Value) (ρ : RT) (f : IT) (g : JT) (Q : QT) : Prop := Ct yX12_rest cX12_rest 4 (some .int) 6 0 0 NF NF as ρ f g Q
abbrev V_X12_restAt (Q : QT) (pc : Nat) (L st : List Value) (ρ : RT) (f : IT) (g : JT) : Prop := V yX12_restAt cX12_restAt 6 (some .int) 5 0 0 false Q NF NF 0 0 pc L st ρ f g
abbrev C_X12_restAt (as : List Value) (ρ : RT) (f : IT) (g : JT) (Q : QT) : Prop := Ct yX12_restAt cX12_restAt 6 (some .int) 5 0 0 NF NF as ρ f g Q
abbrev V_X12_rests (Q : QT) (pc : Nat) (L st : List Value) (ρ : RT) (f : IT) (g : JT) : Prop := V yX12_rests cX12_rests 3 (some .int) 6 0 0 false Q NF NF 0 0 pc L st ρ f g
abbrev C_X12_rests (as : List Value) (ρ : RT) (f : IT) (g : JT) (Q : QT) : Prop := Ct yX12_rests cX12_rests 3 (some .int) 6 0 0 NF NF as ρ f g Q
abbrev V_X12_rule (Q : QT) (pc : Nat) (L st : List Value) (ρ : RT) (f : IT) (g : JT) : Prop := V yX12_rule cX12_rule 5 (some .int) 3 0 0 false Q NF NF 0 0 pc L st ρ f g
abbrev C_X12_rule (as : List Value) (ρ : RT) (f : IT) (g : JT) (Q : QT) : Prop := Ct yX12_rule cX12_rule 5 (some .int) 3 0 0 NF NF as ρ f g Q
abbrev V_X12_run (Q : QT) (pc : Nat) (L st : List Value) (ρ : RT) (f : IT) (g : JT) : Prop := V yX12_run cX12_run 5 (some .int) 6 0 0 false Q NF NF 0 0 pc L st ρ f g
abbrev C_X12_run (as : List Value) (ρ : RT) (f : IT) (g : JT) (Q : QT) : Prop := Ct yX12_run cX12_run 5 (some .int) 6 0 0 NF NF as ρ f g Q
abbrev V_X12_runs (Q : QT) (pc : Nat) (L st : List Value) (ρ : RT) (f : IT) (g : JT) : Prop := V yX12_runs cX12_runs 5 (some .boolean) 5 0 0 false Q NF NF 0 0 pc L st ρ f g
abbrev C_X12_runs (as : List Value) (ρ : RT) (f : IT) (g : JT) (Q : QT) : Prop := Ct yX12_runs cX12_runs 5 (some .boolean) 5 0 0 NF NF as ρ f g Q
abbrev V_X12_sack (Q : QT) (pc : Nat) (L st : List Value) (ρ : RT) (f : IT) (g : JT) : Prop := V yX12_sack cX12_sack 2 (some .boolean) 1 0 0 false Q NF NF 0 0 pc L st ρ f g
abbrev C_X12_sack (as : List Value) (ρ : RT) (f : IT) (g : JT) (Q : QT) : Prop := Ct yX12_sack cX12_sack 2 (some .boolean) 1 0 0 NF NF as ρ f g Q
abbrev V_X12_safe (Q : QT) (pc : Nat) (L st : List Value) (ρ : RT) (f : IT) (g : JT) : Prop := V yX12_safe cX12_safe 10 (some .int) 6 0 0 false Q NF NF 0 0 pc L st ρ f g
abbrev C_X12_safe (as : List Value) (ρ : RT) (f : IT) (g : JT) (Q : QT) : Prop := Ct yX12_safe cX12_safe 10 (some .int) 6 0 0 NF NF as ρ f g Q
abbrev V_X12_saysOf (Q : QT) (pc : Nat) (L st : List Value) (ρ : RT) (f : IT) (g : JT) : Prop := V yX12_saysOf cX12_saysOf 7 (some .long) 1 0 0 false Q NF NF 0 0 pc L st ρ f g
abbrev C_X12_saysOf (as : List Value) (ρ : RT) (f : IT) (g : JT) (Q : QT) : Prop := Ct yX12_saysOf cX12_saysOf 7 (some .long) 1 0 0 NF NF as ρ f g Q
abbrev V_X12_shift (Q : QT) (pc : Nat) (L st : List Value) (ρ : RT) (f : IT) (g : JT) : Prop := V yX12_shift cX12_shift 2 (some .int) 2 0 0 false Q NF NF 0 0 pc L st ρ f g
abbrev C_X12_shift (as : List Value) (ρ : RT) (f : IT) (g : JT) (Q : QT) : Prop := Ct yX12_shift cX12_shift 2 (some .int) 2 0 0 NF NF as ρ f g Q
abbrev V_X12_signToken (Q : QT) (pc : Nat) (L st : List Value) (ρ : RT) (f : IT) (g : JT) : Prop := V yX12_signToken cX12_signToken 4 none 0 0 0 false Q NF NF 0 0 pc L st ρ f g
abbrev C_X12_signToken (as : List Value) (ρ : RT) (f : IT) (g : JT) (Q : QT) : Prop := Ct yX12_signToken cX12_signToken 4 none 0 0 0 NF NF as ρ f g Q
abbrev V_X12_signs (Q : QT) (pc : Nat) (L st : List Value) (ρ : RT) (f : IT) (g : JT) : Prop := V yX12_signs cX12_signs 2 (some .boolean) 2 0 0 false Q NF NF 0 0 pc L st ρ f g
abbrev C_X12_signs (as : List Value) (ρ : RT) (f : IT) (g : JT) (Q : QT) : Prop := Ct yX12_signs cX12_signs 2 (some .boolean) 2 0 0 NF NF as ρ f g Q
abbrev V_X12_slips (Q : QT) (pc : Nat) (L st : List Value) (ρ : RT) (f : IT) (g : JT) : Prop := V yX12_slips cX12_slips 3 (some .boolean) 1 0 0 false Q NF NF 0 0 pc L st ρ f g
abbrev C_X12_slips (as : List Value) (ρ : RT) (f : IT) (g : JT) (Q : QT) : Prop := Ct yX12_slips cX12_slips 3 (some .boolean) 1 0 0 NF NF as ρ f g Q
abbrev V_X12_slopeOf (Q : QT) (pc : Nat) (L st : List Value) (ρ : RT) (f : IT) (g : JT) : Prop := V yX12_slopeOf cX12_slopeOf 2 (some .int) 0 0 0 false Q NF NF 0 0 pc L st ρ f g
abbrev C_X12_slopeOf (as : List Value) (ρ : RT) (f : IT) (g : JT) (Q : QT) : Prop := Ct yX12_slopeOf cX12_slopeOf 2 (some .int) 0 0 0 NF NF as ρ f g Q
abbrev V_X12_split (Q : QT) (pc : Nat) (L st : List Value) (ρ : RT) (f : IT) (g : JT) : Prop := V yX12_split cX12_split 4 (some .int) 6 0 0 false Q NF NF 0 0 pc L st ρ f g
abbrev C_X12_split (as : List Value) (ρ : RT) (f : IT) (g : JT) (Q : QT) : Prop := Ct yX12_split cX12_split 4 (some .int) 6 0 0 NF NF as ρ f g Q
abbrev V_X12_spot (Q : QT) (pc : Nat) (L st : List Value) (ρ : RT) (f : IT) (g : JT) : Prop := V yX12_spot cX12_spot 3 (some .int) 0 0 0 false Q NF NF 0 0 pc L st ρ f g
abbrev C_X12_spot (as : List Value) (ρ : RT) (f : IT) (g : JT) (Q : QT) : Prop := Ct yX12_spot cX12_spot 3 (some .int) 0 0 0 NF NF as ρ f g Q
abbrev V_X12_steady (Q : QT) (pc : Nat) (L st : List Value) (ρ : RT) (f : IT) (g : JT) : Prop := V yX12_steady cX12_steady 7 (some .int) 5 0 0 false Q NF NF 0 0 pc L st ρ f g
abbrev C_X12_steady (as : List Value) (ρ : RT) (f : IT) (g : JT) (Q : QT) : Prop := Ct yX12_steady cX12_steady 7 (some .int) 5 0 0 NF NF as ρ f g Q
abbrev V_X12_step (Q : QT) (pc : Nat) (L st : List Value) (ρ : RT) (f : IT) (g : JT) : Prop := V yX12_step cX12_step 8 none 4 0 0 false Q NF NF 0 0 pc L st ρ f g
abbrev C_X12_step (as : List Value) (ρ : RT) (f : IT) (g : JT) (Q : QT) : Prop := Ct yX12_step cX12_step 8 none 4 0 0 NF NF as ρ f g Q
abbrev V_X12_strike (Q : QT) (pc : Nat) (L st : List Value) (ρ : RT) (f : IT) (g : JT) : Prop := V yX12_strike cX12_strike 2 (some .int) 1 0 0 false Q NF NF 0 0 pc L st ρ f g
abbrev C_X12_strike (as : List Value) (ρ : RT) (f : IT) (g : JT) (Q : QT) : Prop := Ct yX12_strike cX12_strike 2 (some .int) 1 0 0 NF NF as ρ f g Q
abbrev V_X12_sumRead (Q : QT) (pc : Nat) (L st : List Value) (ρ : RT) (f : IT) (g : JT) : Prop := V yX12_sumRead cX12_sumRead 1 (some .boolean) 3 0 0 false Q NF NF 0 0 pc L st ρ f g
abbrev C_X12_sumRead (as : List Value) (ρ : RT) (f : IT) (g : JT) (Q : QT) : Prop := Ct yX12_sumRead cX12_sumRead 1 (some .boolean) 3 0 0 NF NF as ρ f g Q
abbrev V_X12_text (Q : QT) (pc : Nat) (L st : List Value) (ρ : RT) (f : IT) (g : JT) : Prop := V yX12_text cX12_text 3 (some .int) 6 0 0 false Q NF NF 0 0 pc L st ρ f g
abbrev C_X12_text (as : List Value) (ρ : RT) (f : IT) (g : JT) (Q : QT) : Prop := Ct yX12_text cX12_text 3 (some .int) 6 0 0 NF NF as ρ f g Q
abbrev V_X12_through (Q : QT) (pc : Nat) (L st : List Value) (ρ : RT) (f : IT) (g : JT) : Prop := V yX12_through cX12_through 7 (some .boolean) 5 0 0 false Q NF NF 0 0 pc L st ρ f g
abbrev C_X12_through (as : List Value) (ρ : RT) (f : IT) (g : JT) (Q : QT) : Prop := Ct yX12_through cX12_through 7 (some .boolean) 5 0 0 NF NF as ρ f g Q
abbrev V_X12_thrown (Q : QT) (pc : Nat) (L st : List Value) (ρ : RT) (f : IT) (g : JT) : Prop := V yX12_thrown cX12_thrown 1 (some .int) 0 0 0 false Q NF NF 0 0 pc L st ρ f g
abbrev C_X12_thrown (as : List Value) (ρ : RT) (f : IT) (g : JT) (Q : QT) : Prop := Ct yX12_thrown cX12_thrown 1 (some .int) 0 0 0 NF NF as ρ f g Q
abbrev V_X12_times (Q : QT) (pc : Nat) (L st : List Value) (ρ : RT) (f : IT) (g : JT) : Prop := V yX12_times cX12_times 6 (some .long) 0 0 0 false Q NF NF 0 0 pc L st ρ f g
abbrev C_X12_times (as : List Value) (ρ : RT) (f : IT) (g : JT) (Q : QT) : Prop := Ct yX12_times cX12_times 6 (some .long) 0 0 0 NF NF as ρ f g Q
abbrev V_X12_token (Q : QT) (pc : Nat) (L st : List Value) (ρ : RT) (f : IT) (g : JT) : Prop := V yX12_token cX12_token 1 none 1 0 0 false Q NF NF 0 0 pc L st ρ f g
abbrev C_X12_token (as : List Value) (ρ : RT) (f : IT) (g : JT) (Q : QT) : Prop := Ct yX12_token cX12_token 1 none 1 0 0 NF NF as ρ f g Q
abbrev V_X12_told (Q : QT) (pc : Nat) (L st : List Value) (ρ : RT) (f : IT) (g : JT) : Prop := V yX12_told cX12_told 1 (some .int) 0 0 0 false Q NF NF 0 0 pc L st ρ f g
abbrev C_X12_told (as : List Value) (ρ : RT) (f : IT) (g : JT) (Q : QT) : Prop := Ct yX12_told cX12_told 1 (some .int) 0 0 0 NF NF as ρ f g Q
abbrev V_X12_trained (Q : QT) (pc : Nat) (L st : List Value) (ρ : RT) (f : IT) (g : JT) : Prop := V yX12_trained cX12_trained 5 (some .int) 5 0 0 false Q NF NF 0 0 pc L st ρ f g
abbrev C_X12_trained (as : List Value) (ρ : RT) (f : IT) (g : JT) (Q : QT) : Prop := Ct yX12_trained cX12_trained 5 (some .int) 5 0 0 NF NF as ρ f g Q
abbrev V_X12_undo (Q : QT) (pc : Nat) (L st : List Value) (ρ : RT) (f : IT) (g : JT) : Prop := V yX12_undo cX12_undo 2 (some .int) 0 0 0 false Q NF NF 0 0 pc L st ρ f g
abbrev C_X12_undo (as : List Value) (ρ : RT) (f : IT) (g : JT) (Q : QT) : Prop := Ct yX12_undo cX12_undo 2 (some .int) 0 0 0 NF NF as ρ f g Q
abbrev V_X12_valueOf (Q : QT) (pc : Nat) (L st : List Value) (ρ : RT) (f : IT) (g : JT) : Prop := V yX12_valueOf cX12_valueOf 6 (some .long) 1 0 0 false Q NF NF 0 0 pc L st ρ f g
abbrev C_X12_valueOf (as : List Value) (ρ : RT) (f : IT) (g : JT) (Q : QT) : Prop := Ct yX12_valueOf cX12_valueOf 6 (some .long) 1 0 0 NF NF as ρ f g Q
abbrev V_X12_waitsFor (Q : QT) (pc : Nat) (L st : List Value) (ρ : RT) (f : IT) (g : JT) : Prop := V yX12_waitsFor cX12_waitsFor 2 none 0 0 0 false Q NF NF 0 0 pc L st ρ f g
abbrev C_X12_waitsFor (as : List Value) (ρ : RT) (f : IT) (g : JT) (Q : QT) : Prop := Ct yX12_waitsFor cX12_waitsFor 2 none 0 0 0 NF NF as ρ f g Q
abbrev V_X12_weighed (Q : QT) (pc : Nat) (L st : List Value) (ρ : RT) (f : IT) (g : JT) : Prop := V yX12_weighed cX12_weighed 9 (some .int) 8 0 0 false Q NF NF 0 0 pc L st ρ f g
abbrev C_X12_weighed (as : List Value) (ρ : RT) (f : IT) (g : JT) (Q : QT) : Prop := Ct yX12_weighed cX12_weighed 9 (some .int) 8 0 0 NF NF as ρ f g Q
abbrev V_X12_wins (Q : QT) (pc : Nat) (L st : List Value) (ρ : RT) (f : IT) (g : JT) : Prop := V yX12_wins cX12_wins 13 (some .int) 6 0 0 false Q NF NF 0 0 pc L st ρ f g
abbrev C_X12_wins (as : List Value) (ρ : RT) (f : IT) (g : JT) (Q : QT) : Prop := Ct yX12_wins cX12_wins 13 (some .int) 6 0 0 NF NF as ρ f g Q
abbrev V_X12_wordAt (Q : QT) (pc : Nat) (L st : List Value) (ρ : RT) (f : IT) (g : JT) : Prop := V yX12_wordAt cX12_wordAt 8 (some .int) 0 0 0 false Q NF NF 0 0 pc L st ρ f g
abbrev C_X12_wordAt (as : List Value) (ρ : RT) (f : IT) (g : JT) (Q : QT) : Prop := Ct yX12_wordAt cX12_wordAt 8 (some .int) 0 0 0 NF NF as ρ f g Q
abbrev V_X12_wrong (Q : QT) (pc : Nat) (L st : List Value) (ρ : RT) (f : IT) (g : JT) : Prop := V yX12_wrong cX12_wrong 2 (some .boolean) 0 0 0 false Q NF NF 0 0 pc L st ρ f g
abbrev C_X12_wrong (as : List Value) (ρ : RT) (f : IT) (g : JT) (Q : QT) : Prop := Ct yX12_wrong cX12_wrong 2 (some .boolean) 0 0 0 NF NF as ρ f g Q
abbrev V_X1_add (Q : QT) (pc : Nat) (L st : List Value) (ρ : RT) (f : IT) (g : JT) : Prop := V yX1_add cX1_add 3 none 0 0 0 false Q NF NF 0 0 pc L st ρ f g
abbrev C_X1_add (as : List Value) (ρ : RT) (f : IT) (g : JT) (Q : QT) : Prop := Ct yX1_add cX1_add 3 none 0 0 0 NF NF as ρ f g Q
abbrev V_X1_clear (Q : QT) (pc : Nat) (L st : List Value) (ρ : RT) (f : IT) (g : JT) : Prop := V yX1_clear cX1_clear 2 none 0 0 0 false Q NF NF 0 0 pc L st ρ f g
abbrev C_X1_clear (as : List Value) (ρ : RT) (f : IT) (g : JT) (Q : QT) : Prop := Ct yX1_clear cX1_clear 2 none 0 0 0 NF NF as ρ f g Q
abbrev V_X1_close (Q : QT) (pc : Nat) (L st : List Value) (ρ : RT) (f : IT) (g : JT) : Prop := V yX1_close cX1_close 2 (some .boolean) 0 0 0 false Q NF NF 0 0 pc L st ρ f g
abbrev C_X1_close (as : List Value) (ρ : RT) (f : IT) (g : JT) (Q : QT) : Prop := Ct yX1_close cX1_close 2 (some .boolean) 0 0 0 NF NF as ρ f g Q
abbrev V_X1_countKnot (Q : QT) (pc : Nat) (L st : List Value) (ρ : RT) (f : IT) (g : JT) : Prop := V yX1_countKnot cX1_countKnot 1 (some .boolean) 0 0 0 false Q NF NF 0 0 pc L st ρ f g
abbrev C_X1_countKnot (as : List Value) (ρ : RT) (f : IT) (g : JT) (Q : QT) : Prop := Ct yX1_countKnot cX1_countKnot 1 (some .boolean) 0 0 0 NF NF as ρ f g Q
abbrev V_X1_has (Q : QT) (pc : Nat) (L st : List Value) (ρ : RT) (f : IT) (g : JT) : Prop := V yX1_has cX1_has 2 (some .boolean) 0 0 0 false Q NF NF 0 0 pc L st ρ f g
abbrev C_X1_has (as : List Value) (ρ : RT) (f : IT) (g : JT) (Q : QT) : Prop := Ct yX1_has cX1_has 2 (some .boolean) 0 0 0 NF NF as ρ f g Q
abbrev V_X1_join (Q : QT) (pc : Nat) (L st : List Value) (ρ : RT) (f : IT) (g : JT) : Prop := V yX1_join cX1_join 7 (some .long) 0 0 0 false Q NF NF 0 0 pc L st ρ f g
abbrev C_X1_join (as : List Value) (ρ : RT) (f : IT) (g : JT) (Q : QT) : Prop := Ct yX1_join cX1_join 7 (some .long) 0 0 0 NF NF as ρ f g Q
abbrev V_X1_open (Q : QT) (pc : Nat) (L st : List Value) (ρ : RT) (f : IT) (g : JT) : Prop := V yX1_open cX1_open 2 none 0 0 0 false Q NF NF 0 0 pc L st ρ f g
abbrev C_X1_open (as : List Value) (ρ : RT) (f : IT) (g : JT) (Q : QT) : Prop := Ct yX1_open cX1_open 2 none 0 0 0 NF NF as ρ f g Q
abbrev V_X1_within (Q : QT) (pc : Nat) (L st : List Value) (ρ : RT) (f : IT) (g : JT) : Prop := V yX1_within cX1_within 7 (some .int) 2 0 0 false Q NF NF 0 0 pc L st ρ f g
abbrev C_X1_within (as : List Value) (ρ : RT) (f : IT) (g : JT) (Q : QT) : Prop := Ct yX1_within cX1_within 7 (some .int) 2 0 0 NF NF as ρ f g Q
abbrev V_X1_worth (Q : QT) (pc : Nat) (L st : List Value) (ρ : RT) (f : IT) (g : JT) : Prop := V yX1_worth cX1_worth 7 (some .long) 1 0 0 false Q NF NF 0 0 pc L st ρ f g
abbrev C_X1_worth (as : List Value) (ρ : RT) (f : IT) (g : JT) (Q : QT) : Prop := Ct yX1_worth cX1_worth 7 (some .long) 1 0 0 NF NF as ρ f g Q
abbrev V_X2_ends (Q : QT) (pc : Nat) (L st : List Value) (ρ : RT) (f : IT) (g : JT) : Prop := V yX2_ends cX2_ends 1 (some .boolean) 1 0 0 false Q NF NF 0 0 pc L st ρ f g
abbrev C_X2_ends (as : List Value) (ρ : RT) (f : IT) (g : JT) (Q : QT) : Prop := Ct yX2_ends cX2_ends 1 (some .boolean) 1 0 0 NF NF as ρ f g Q
abbrev V_X2_isNumber (Q : QT) (pc : Nat) (L st : List Value) (ρ : RT) (f : IT) (g : JT) : Prop := V yX2_isNumber cX2_isNumber 3 (some .boolean) 1 0 0 false Q NF NF 0 0 pc L st ρ f g
abbrev C_X2_isNumber (as : List Value) (ρ : RT) (f : IT) (g : JT) (Q : QT) : Prop := Ct yX2_isNumber cX2_isNumber 3 (some .boolean) 1 0 0 NF NF as ρ f g Q
abbrev V_X2_letWait (Q : QT) (pc : Nat) (L st : List Value) (ρ : RT) (f : IT) (g : JT) : Prop := V yX2_letWait cX2_letWait 2 (some .boolean) 1 0 0 false Q NF NF 0 0 pc L st ρ f g
abbrev C_X2_letWait (as : List Value) (ρ : RT) (f : IT) (g : JT) (Q : QT) : Prop := Ct yX2_letWait cX2_letWait 2 (some .boolean) 1 0 0 NF NF as ρ f g Q
abbrev V_X2_parse (Q : QT) (pc : Nat) (L st : List Value) (ρ : RT) (f : IT) (g : JT) : Prop := V yX2_parse cX2_parse 4 (some .boolean) 6 0 0 false Q NF NF 0 0 pc L st ρ f g
abbrev C_X2_parse (as : List Value) (ρ : RT) (f : IT) (g : JT) (Q : QT) : Prop := Ct yX2_parse cX2_parse 4 (some .boolean) 6 0 0 NF NF as ρ f g Q
abbrev V_X2_readBehindValue (Q : QT) (pc : Nat) (L st : List Value) (ρ : RT) (f : IT) (g : JT) : Prop := V yX2_readBehindValue cX2_readBehindValue 4 (some .boolean) 2 0 0 false Q NF NF 0 0 pc L st ρ f g
abbrev C_X2_readBehindValue (as : List Value) (ρ : RT) (f : IT) (g : JT) (Q : QT) : Prop := Ct yX2_readBehindValue cX2_readBehindValue 4 (some .boolean) 2 0 0 NF NF as ρ f g Q
abbrev V_X2_readExpression (Q : QT) (pc : Nat) (L st : List Value) (ρ : RT) (f : IT) (g : JT) : Prop := V yX2_readExpression cX2_readExpression 3 (some .boolean) 3 0 0 false Q NF NF 0 0 pc L st ρ f g
abbrev C_X2_readExpression (as : List Value) (ρ : RT) (f : IT) (g : JT) (Q : QT) : Prop := Ct yX2_readExpression cX2_readExpression 3 (some .boolean) 3 0 0 NF NF as ρ f g Q
abbrev V_X2_readHold (Q : QT) (pc : Nat) (L st : List Value) (ρ : RT) (f : IT) (g : JT) : Prop := V yX2_readHold cX2_readHold 3 (some .boolean) 3 0 0 false Q NF NF 0 0 pc L st ρ f g
abbrev C_X2_readHold (as : List Value) (ρ : RT) (f : IT) (g : JT) (Q : QT) : Prop := Ct yX2_readHold cX2_readHold 3 (some .boolean) 3 0 0 NF NF as ρ f g Q
abbrev V_X2_readLaw (Q : QT) (pc : Nat) (L st : List Value) (ρ : RT) (f : IT) (g : JT) : Prop := V yX2_readLaw cX2_readLaw 3 (some .boolean) 4 0 0 false Q NF NF 0 0 pc L st ρ f g
abbrev C_X2_readLaw (as : List Value) (ρ : RT) (f : IT) (g : JT) (Q : QT) : Prop := Ct yX2_readLaw cX2_readLaw 3 (some .boolean) 4 0 0 NF NF as ρ f g Q
abbrev V_X2_readLine (Q : QT) (pc : Nat) (L st : List Value) (ρ : RT) (f : IT) (g : JT) : Prop := V yX2_readLine cX2_readLine 2 (some .boolean) 5 0 0 false Q NF NF 0 0 pc L st ρ f g
abbrev C_X2_readLine (as : List Value) (ρ : RT) (f : IT) (g : JT) (Q : QT) : Prop := Ct yX2_readLine cX2_readLine 2 (some .boolean) 5 0 0 NF NF as ρ f g Q
abbrev V_X2_readLone (Q : QT) (pc : Nat) (L st : List Value) (ρ : RT) (f : IT) (g : JT) : Prop := V yX2_readLone cX2_readLone 4 (some .int) 3 0 0 false Q NF NF 0 0 pc L st ρ f g
abbrev C_X2_readLone (as : List Value) (ρ : RT) (f : IT) (g : JT) (Q : QT) : Prop := Ct yX2_readLone cX2_readLone 4 (some .int) 3 0 0 NF NF as ρ f g Q
abbrev V_X2_readMarks (Q : QT) (pc : Nat) (L st : List Value) (ρ : RT) (f : IT) (g : JT) : Prop := V yX2_readMarks cX2_readMarks 2 none 3 0 0 false Q NF NF 0 0 pc L st ρ f g
abbrev C_X2_readMarks (as : List Value) (ρ : RT) (f : IT) (g : JT) (Q : QT) : Prop := Ct yX2_readMarks cX2_readMarks 2 none 3 0 0 NF NF as ρ f g Q
abbrev V_X2_readPaces (Q : QT) (pc : Nat) (L st : List Value) (ρ : RT) (f : IT) (g : JT) : Prop := V yX2_readPaces cX2_readPaces 4 (some .boolean) 3 0 0 false Q NF NF 0 0 pc L st ρ f g
abbrev C_X2_readPaces (as : List Value) (ρ : RT) (f : IT) (g : JT) (Q : QT) : Prop := Ct yX2_readPaces cX2_readPaces 4 (some .boolean) 3 0 0 NF NF as ρ f g Q
abbrev V_X2_readRow (Q : QT) (pc : Nat) (L st : List Value) (ρ : RT) (f : IT) (g : JT) : Prop := V yX2_readRow cX2_readRow 5 (some .boolean) 4 0 0 false Q NF NF 0 0 pc L st ρ f g
abbrev C_X2_readRow (as : List Value) (ρ : RT) (f : IT) (g : JT) (Q : QT) : Prop := Ct yX2_readRow cX2_readRow 5 (some .boolean) 4 0 0 NF NF as ρ f g Q
abbrev V_X2_readValue (Q : QT) (pc : Nat) (L st : List Value) (ρ : RT) (f : IT) (g : JT) : Prop := V yX2_readValue cX2_readValue 2 (some .boolean) 2 0 0 false Q NF NF 0 0 pc L st ρ f g
abbrev C_X2_readValue (as : List Value) (ρ : RT) (f : IT) (g : JT) (Q : QT) : Prop := Ct yX2_readValue cX2_readValue 2 (some .boolean) 2 0 0 NF NF as ρ f g Q
abbrev V_X2_refuse (Q : QT) (pc : Nat) (L st : List Value) (ρ : RT) (f : IT) (g : JT) : Prop := V yX2_refuse cX2_refuse 2 (some .boolean) 0 0 0 false Q NF NF 0 0 pc L st ρ f g
abbrev C_X2_refuse (as : List Value) (ρ : RT) (f : IT) (g : JT) (Q : QT) : Prop := Ct yX2_refuse cX2_refuse 2 (some .boolean) 0 0 0 NF NF as ρ f g Q
abbrev V_X2_settle (Q : QT) (pc : Nat) (L st : List Value) (ρ : RT) (f : IT) (g : JT) : Prop := V yX2_settle cX2_settle 3 none 1 0 0 false Q NF NF 0 0 pc L st ρ f g
abbrev C_X2_settle (as : List Value) (ρ : RT) (f : IT) (g : JT) (Q : QT) : Prop := Ct yX2_settle cX2_settle 3 none 1 0 0 NF NF as ρ f g Q
abbrev V_X3_at (Q : QT) (pc : Nat) (L st : List Value) (ρ : RT) (f : IT) (g : JT) : Prop := V yX3_at cX3_at 4 (some .int) 0 0 0 false Q NF NF 0 0 pc L st ρ f g
abbrev C_X3_at (as : List Value) (ρ : RT) (f : IT) (g : JT) (Q : QT) : Prop := Ct yX3_at cX3_at 4 (some .int) 0 0 0 NF NF as ρ f g Q
abbrev V_X3_close (Q : QT) (pc : Nat) (L st : List Value) (ρ : RT) (f : IT) (g : JT) : Prop := V yX3_close cX3_close 1 (some .boolean) 0 0 0 false Q NF NF 0 0 pc L st ρ f g
abbrev C_X3_close (as : List Value) (ρ : RT) (f : IT) (g : JT) (Q : QT) : Prop := Ct yX3_close cX3_close 1 (some .boolean) 0 0 0 NF NF as ρ f g Q
abbrev V_X3_find (Q : QT) (pc : Nat) (L st : List Value) (ρ : RT) (f : IT) (g : JT) : Prop := V yX3_find cX3_find 3 (some .int) 0 0 0 false Q NF NF 0 0 pc L st ρ f g
abbrev C_X3_find (as : List Value) (ρ : RT) (f : IT) (g : JT) (Q : QT) : Prop := Ct yX3_find cX3_find 3 (some .int) 0 0 0 NF NF as ρ f g Q
abbrev V_X3_open (Q : QT) (pc : Nat) (L st : List Value) (ρ : RT) (f : IT) (g : JT) : Prop := V yX3_open cX3_open 3 none 0 0 0 false Q NF NF 0 0 pc L st ρ f g
abbrev C_X3_open (as : List Value) (ρ : RT) (f : IT) (g : JT) (Q : QT) : Prop := Ct yX3_open cX3_open 3 none 0 0 0 NF NF as ρ f g Q
abbrev V_X3_put (Q : QT) (pc : Nat) (L st : List Value) (ρ : RT) (f : IT) (g : JT) : Prop := V yX3_put cX3_put 3 none 0 0 0 false Q NF NF 0 0 pc L st ρ f g
abbrev C_X3_put (as : List Value) (ρ : RT) (f : IT) (g : JT) (Q : QT) : Prop := Ct yX3_put cX3_put 3 none 0 0 0 NF NF as ρ f g Q
abbrev V_X4_begin (Q : QT) (pc : Nat) (L st : List Value) (ρ : RT) (f : IT) (g : JT) : Prop := V yX4_begin cX4_begin 1 none 2 0 0 false Q NF NF 0 0 pc L st ρ f g
abbrev C_X4_begin (as : List Value) (ρ : RT) (f : IT) (g : JT) (Q : QT) : Prop := Ct yX4_begin cX4_begin 1 none 2 0 0 NF NF as ρ f g Q
abbrev V_X4_end (Q : QT) (pc : Nat) (L st : List Value) (ρ : RT) (f : IT) (g : JT) : Prop := V yX4_end cX4_end 4 none 0 0 0 false Q NF NF 0 0 pc L st ρ f g
abbrev C_X4_end (as : List Value) (ρ : RT) (f : IT) (g : JT) (Q : QT) : Prop := Ct yX4_end cX4_end 4 none 0 0 0 NF NF as ρ f g Q
abbrev V_X4_paceIn (Q : QT) (pc : Nat) (L st : List Value) (ρ : RT) (f : IT) (g : JT) : Prop := V yX4_paceIn cX4_paceIn 3 (some .int) 1 0 0 false Q NF NF 0 0 pc L st ρ f g
abbrev C_X4_paceIn (as : List Value) (ρ : RT) (f : IT) (g : JT) (Q : QT) : Prop := Ct yX4_paceIn cX4_paceIn 3 (some .int) 1 0 0 NF NF as ρ f g Q
abbrev V_X4_reach (Q : QT) (pc : Nat) (L st : List Value) (ρ : RT) (f : IT) (g : JT) : Prop := V yX4_reach cX4_reach 11 none 0 0 0 false Q NF NF 0 0 pc L st ρ f g
abbrev C_X4_reach (as : List Value) (ρ : RT) (f : IT) (g : JT) (Q : QT) : Prop := Ct yX4_reach cX4_reach 11 none 0 0 0 NF NF as ρ f g Q
abbrev V_X4_seek (Q : QT) (pc : Nat) (L st : List Value) (ρ : RT) (f : IT) (g : JT) : Prop := V yX4_seek cX4_seek 6 (some .int) 6 0 0 false Q NF NF 0 0 pc L st ρ f g
abbrev C_X4_seek (as : List Value) (ρ : RT) (f : IT) (g : JT) (Q : QT) : Prop := Ct yX4_seek cX4_seek 6 (some .int) 6 0 0 NF NF as ρ f g Q
abbrev V_X4_spread (Q : QT) (pc : Nat) (L st : List Value) (ρ : RT) (f : IT) (g : JT) : Prop := V yX4_spread cX4_spread 7 none 5 0 0 false Q NF NF 0 0 pc L st ρ f g
abbrev C_X4_spread (as : List Value) (ρ : RT) (f : IT) (g : JT) (Q : QT) : Prop := Ct yX4_spread cX4_spread 7 none 5 0 0 NF NF as ρ f g Q
abbrev V_X4_turnOver (Q : QT) (pc : Nat) (L st : List Value) (ρ : RT) (f : IT) (g : JT) : Prop := V yX4_turnOver cX4_turnOver 3 none 0 0 0 false Q NF NF 0 0 pc L st ρ f g
abbrev C_X4_turnOver (as : List Value) (ρ : RT) (f : IT) (g : JT) (Q : QT) : Prop := Ct yX4_turnOver cX4_turnOver 3 none 0 0 0 NF NF as ρ f g Q
abbrev V_X5_add (Q : QT) (pc : Nat) (L st : List Value) (ρ : RT) (f : IT) (g : JT) : Prop := V yX5_add cX5_add 5 (some .int) 0 0 0 false Q NF NF 0 0 pc L st ρ f g
abbrev C_X5_add (as : List Value) (ρ : RT) (f : IT) (g : JT) (Q : QT) : Prop := Ct yX5_add cX5_add 5 (some .int) 0 0 0 NF NF as ρ f g Q
abbrev V_X5_clear (Q : QT) (pc : Nat) (L st : List Value) (ρ : RT) (f : IT) (g : JT) : Prop := V yX5_clear cX5_clear 1 none 0 0 0 false Q NF NF 0 0 pc L st ρ f g
abbrev C_X5_clear (as : List Value) (ρ : RT) (f : IT) (g : JT) (Q : QT) : Prop := Ct yX5_clear cX5_clear 1 none 0 0 0 NF NF as ρ f g Q
abbrev V_X5_expect (Q : QT) (pc : Nat) (L st : List Value) (ρ : RT) (f : IT) (g : JT) : Prop := V yX5_expect cX5_expect 4 none 1 0 0 false Q NF NF 0 0 pc L st ρ f g
abbrev C_X5_expect (as : List Value) (ρ : RT) (f : IT) (g : JT) (Q : QT) : Prop := Ct yX5_expect cX5_expect 4 none 1 0 0 NF NF as ρ f g Q
abbrev V_X5_fit (Q : QT) (pc : Nat) (L st : List Value) (ρ : RT) (f : IT) (g : JT) : Prop := V yX5_fit cX5_fit 6 none 6 0 0 false Q NF NF 0 0 pc L st ρ f g
abbrev C_X5_fit (as : List Value) (ρ : RT) (f : IT) (g : JT) (Q : QT) : Prop := Ct yX5_fit cX5_fit 6 none 6 0 0 NF NF as ρ f g Q
abbrev V_X5_gather (Q : QT) (pc : Nat) (L st : List Value) (ρ : RT) (f : IT) (g : JT) : Prop := V yX5_gather cX5_gather 3 none 2 0 0 false Q NF NF 0 0 pc L st ρ f g
abbrev C_X5_gather (as : List Value) (ρ : RT) (f : IT) (g : JT) (Q : QT) : Prop := Ct yX5_gather cX5_gather 3 none 2 0 0 NF NF as ρ f g Q
abbrev V_X5_isFit (Q : QT) (pc : Nat) (L st : List Value) (ρ : RT) (f : IT) (g : JT) : Prop := V yX5_isFit cX5_isFit 9 (some .boolean) 5 0 0 false Q NF NF 0 0 pc L st ρ f g
abbrev C_X5_isFit (as : List Value) (ρ : RT) (f : IT) (g : JT) (Q : QT) : Prop := Ct yX5_isFit cX5_isFit 9 (some .boolean) 5 0 0 NF NF as ρ f g Q
abbrev V_X5_know (Q : QT) (pc : Nat) (L st : List Value) (ρ : RT) (f : IT) (g : JT) : Prop := V yX5_know cX5_know 2 none 0 0 0 false Q NF NF 0 0 pc L st ρ f g
abbrev C_X5_know (as : List Value) (ρ : RT) (f : IT) (g : JT) (Q : QT) : Prop := Ct yX5_know cX5_know 2 none 0 0 0 NF NF as ρ f g Q
abbrev V_X5_knownSize (Q : QT) (pc : Nat) (L st : List Value) (ρ : RT) (f : IT) (g : JT) : Prop := V yX5_knownSize cX5_knownSize 1 (some .int) 1 0 0 false Q NF NF 0 0 pc L st ρ f g
abbrev C_X5_knownSize (as : List Value) (ρ : RT) (f : IT) (g : JT) (Q : QT) : Prop := Ct yX5_knownSize cX5_knownSize 1 (some .int) 1 0 0 NF NF as ρ f g Q
abbrev V_X5_strikeOut (Q : QT) (pc : Nat) (L st : List Value) (ρ : RT) (f : IT) (g : JT) : Prop := V yX5_strikeOut cX5_strikeOut 3 none 2 0 0 false Q NF NF 0 0 pc L st ρ f g
abbrev C_X5_strikeOut (as : List Value) (ρ : RT) (f : IT) (g : JT) (Q : QT) : Prop := Ct yX5_strikeOut cX5_strikeOut 3 none 2 0 0 NF NF as ρ f g Q
abbrev V_X5_tells (Q : QT) (pc : Nat) (L st : List Value) (ρ : RT) (f : IT) (g : JT) : Prop := V yX5_tells cX5_tells 2 (some .int) 0 0 0 false Q NF NF 0 0 pc L st ρ f g
abbrev C_X5_tells (as : List Value) (ρ : RT) (f : IT) (g : JT) (Q : QT) : Prop := Ct yX5_tells cX5_tells 2 (some .int) 0 0 0 NF NF as ρ f g Q
abbrev V_X5_widen (Q : QT) (pc : Nat) (L st : List Value) (ρ : RT) (f : IT) (g : JT) : Prop := V yX5_widen cX5_widen 3 none 1 0 0 false Q NF NF 0 0 pc L st ρ f g
abbrev C_X5_widen (as : List Value) (ρ : RT) (f : IT) (g : JT) (Q : QT) : Prop := Ct yX5_widen cX5_widen 3 none 1 0 0 NF NF as ρ f g Q
abbrev V_X6_begin (Q : QT) (pc : Nat) (L st : List Value) (ρ : RT) (f : IT) (g : JT) : Prop := V yX6_begin cX6_begin 2 none 1 0 0 false Q NF NF 0 0 pc L st ρ f g
abbrev C_X6_begin (as : List Value) (ρ : RT) (f : IT) (g : JT) (Q : QT) : Prop := Ct yX6_begin cX6_begin 2 none 1 0 0 NF NF as ρ f g Q
abbrev V_X6_isDigit (Q : QT) (pc : Nat) (L st : List Value) (ρ : RT) (f : IT) (g : JT) : Prop := V yX6_isDigit cX6_isDigit 1 (some .boolean) 0 0 0 false Q NF NF 0 0 pc L st ρ f g
abbrev C_X6_isDigit (as : List Value) (ρ : RT) (f : IT) (g : JT) (Q : QT) : Prop := Ct yX6_isDigit cX6_isDigit 1 (some .boolean) 0 0 0 NF NF as ρ f g Q
abbrev V_X6_isLetter (Q : QT) (pc : Nat) (L st : List Value) (ρ : RT) (f : IT) (g : JT) : Prop := V yX6_isLetter cX6_isLetter 1 (some .boolean) 0 0 0 false Q NF NF 0 0 pc L st ρ f g
abbrev C_X6_isLetter (as : List Value) (ρ : RT) (f : IT) (g : JT) (Q : QT) : Prop := Ct yX6_isLetter cX6_isLetter 1 (some .boolean) 0 0 0 NF NF as ρ f g Q
abbrev V_X6_isName (Q : QT) (pc : Nat) (L st : List Value) (ρ : RT) (f : IT) (g : JT) : Prop := V yX6_isName cX6_isName 1 (some .boolean) 0 0 0 false Q NF NF 0 0 pc L st ρ f g
abbrev C_X6_isName (as : List Value) (ρ : RT) (f : IT) (g : JT) (Q : QT) : Prop := Ct yX6_isName cX6_isName 1 (some .boolean) 0 0 0 NF NF as ρ f g Q
abbrev V_X6_knowWord (Q : QT) (pc : Nat) (L st : List Value) (ρ : RT) (f : IT) (g : JT) : Prop := V yX6_knowWord cX6_knowWord 2 none 0 0 0 false Q NF NF 0 0 pc L st ρ f g
abbrev C_X6_knowWord (as : List Value) (ρ : RT) (f : IT) (g : JT) (Q : QT) : Prop := Ct yX6_knowWord cX6_knowWord 2 none 0 0 0 NF NF as ρ f g Q
abbrev V_X6_next (Q : QT) (pc : Nat) (L st : List Value) (ρ : RT) (f : IT) (g : JT) : Prop := V yX6_next cX6_next 1 none 2 0 0 false Q NF NF 0 0 pc L st ρ f g
abbrev C_X6_next (as : List Value) (ρ : RT) (f : IT) (g : JT) (Q : QT) : Prop := Ct yX6_next cX6_next 1 none 2 0 0 NF NF as ρ f g Q
abbrev V_X6_readNumber (Q : QT) (pc : Nat) (L st : List Value) (ρ : RT) (f : IT) (g : JT) : Prop := V yX6_readNumber cX6_readNumber 1 none 1 0 0 false Q NF NF 0 0 pc L st ρ f g
abbrev C_X6_readNumber (as : List Value) (ρ : RT) (f : IT) (g : JT) (Q : QT) : Prop := Ct yX6_readNumber cX6_readNumber 1 none 1 0 0 NF NF as ρ f g Q
abbrev V_X6_readSign (Q : QT) (pc : Nat) (L st : List Value) (ρ : RT) (f : IT) (g : JT) : Prop := V yX6_readSign cX6_readSign 2 none 1 0 0 false Q NF NF 0 0 pc L st ρ f g
abbrev C_X6_readSign (as : List Value) (ρ : RT) (f : IT) (g : JT) (Q : QT) : Prop := Ct yX6_readSign cX6_readSign 2 none 1 0 0 NF NF as ρ f g Q
abbrev V_X6_readWord (Q : QT) (pc : Nat) (L st : List Value) (ρ : RT) (f : IT) (g : JT) : Prop := V yX6_readWord cX6_readWord 2 none 1 0 0 false Q NF NF 0 0 pc L st ρ f g
abbrev C_X6_readWord (as : List Value) (ρ : RT) (f : IT) (g : JT) (Q : QT) : Prop := Ct yX6_readWord cX6_readWord 2 none 1 0 0 NF NF as ρ f g Q
abbrev V_X6_take (Q : QT) (pc : Nat) (L st : List Value) (ρ : RT) (f : IT) (g : JT) : Prop := V yX6_take cX6_take 2 (some .boolean) 0 0 0 false Q NF NF 0 0 pc L st ρ f g
abbrev C_X6_take (as : List Value) (ρ : RT) (f : IT) (g : JT) (Q : QT) : Prop := Ct yX6_take cX6_take 2 (some .boolean) 0 0 0 NF NF as ρ f g Q
abbrev V_X7_at (Q : QT) (pc : Nat) (L st : List Value) (ρ : RT) (f : IT) (g : JT) : Prop := V yX7_at cX7_at 4 (some .int) 1 0 0 false Q NF NF 0 0 pc L st ρ f g
abbrev C_X7_at (as : List Value) (ρ : RT) (f : IT) (g : JT) (Q : QT) : Prop := Ct yX7_at cX7_at 4 (some .int) 1 0 0 NF NF as ρ f g Q
abbrev V_X7_clear (Q : QT) (pc : Nat) (L st : List Value) (ρ : RT) (f : IT) (g : JT) : Prop := V yX7_clear cX7_clear 2 none 1 0 0 false Q NF NF 0 0 pc L st ρ f g
abbrev C_X7_clear (as : List Value) (ρ : RT) (f : IT) (g : JT) (Q : QT) : Prop := Ct yX7_clear cX7_clear 2 none 1 0 0 NF NF as ρ f g Q
abbrev V_X7_has (Q : QT) (pc : Nat) (L st : List Value) (ρ : RT) (f : IT) (g : JT) : Prop := V yX7_has cX7_has 3 (some .boolean) 0 0 0 false Q NF NF 0 0 pc L st ρ f g
abbrev C_X7_has (as : List Value) (ρ : RT) (f : IT) (g : JT) (Q : QT) : Prop := Ct yX7_has cX7_has 3 (some .boolean) 0 0 0 NF NF as ρ f g Q
abbrev V_X7_size (Q : QT) (pc : Nat) (L st : List Value) (ρ : RT) (f : IT) (g : JT) : Prop := V yX7_size cX7_size 2 (some .int) 0 0 0 false Q NF NF 0 0 pc L st ρ f g
abbrev C_X7_size (as : List Value) (ρ : RT) (f : IT) (g : JT) (Q : QT) : Prop := Ct yX7_size cX7_size 2 (some .int) 0 0 0 NF NF as ρ f g Q
abbrev V_X7_stepsAhead (Q : QT) (pc : Nat) (L st : List Value) (ρ : RT) (f : IT) (g : JT) : Prop := V yX7_stepsAhead cX7_stepsAhead 4 (some .int) 2 0 0 false Q NF NF 0 0 pc L st ρ f g
abbrev C_X7_stepsAhead (as : List Value) (ρ : RT) (f : IT) (g : JT) (Q : QT) : Prop := Ct yX7_stepsAhead cX7_stepsAhead 4 (some .int) 2 0 0 NF NF as ρ f g Q
abbrev V_X8_bounded (Q : QT) (pc : Nat) (L st : List Value) (ρ : RT) (f : IT) (g : JT) : Prop := V yX8_bounded cX8_bounded 1 (some .int) 1 0 0 false Q NF NF 0 0 pc L st ρ f g
abbrev C_X8_bounded (as : List Value) (ρ : RT) (f : IT) (g : JT) (Q : QT) : Prop := Ct yX8_bounded cX8_bounded 1 (some .int) 1 0 0 NF NF as ρ f g Q
abbrev V_X8_forget (Q : QT) (pc : Nat) (L st : List Value) (ρ : RT) (f : IT) (g : JT) : Prop := V yX8_forget cX8_forget 1 none 0 0 0 false Q NF NF 0 0 pc L st ρ f g
abbrev C_X8_forget (as : List Value) (ρ : RT) (f : IT) (g : JT) (Q : QT) : Prop := Ct yX8_forget cX8_forget 1 none 0 0 0 NF NF as ρ f g Q
abbrev V_X8_give (Q : QT) (pc : Nat) (L st : List Value) (ρ : RT) (f : IT) (g : JT) : Prop := V yX8_give cX8_give 6 none 0 0 0 false Q NF NF 0 0 pc L st ρ f g
abbrev C_X8_give (as : List Value) (ρ : RT) (f : IT) (g : JT) (Q : QT) : Prop := Ct yX8_give cX8_give 6 none 0 0 0 NF NF as ρ f g Q
abbrev V_X8_seek (Q : QT) (pc : Nat) (L st : List Value) (ρ : RT) (f : IT) (g : JT) : Prop := V yX8_seek cX8_seek 5 none 8 0 0 false Q NF NF 0 0 pc L st ρ f g
abbrev C_X8_seek (as : List Value) (ρ : RT) (f : IT) (g : JT) (Q : QT) : Prop := Ct yX8_seek cX8_seek 5 none 8 0 0 NF NF as ρ f g Q
abbrev V_X8_train (Q : QT) (pc : Nat) (L st : List Value) (ρ : RT) (f : IT) (g : JT) : Prop := V yX8_train cX8_train 11 none 7 0 0 false Q NF NF 0 0 pc L st ρ f g
abbrev C_X8_train (as : List Value) (ρ : RT) (f : IT) (g : JT) (Q : QT) : Prop := Ct yX8_train cX8_train 11 none 7 0 0 NF NF as ρ f g Q
abbrev V_X8_weigh (Q : QT) (pc : Nat) (L st : List Value) (ρ : RT) (f : IT) (g : JT) : Prop := V yX8_weigh cX8_weigh 4 none 0 0 0 false Q NF NF 0 0 pc L st ρ f g
abbrev C_X8_weigh (as : List Value) (ρ : RT) (f : IT) (g : JT) (Q : QT) : Prop := Ct yX8_weigh cX8_weigh 4 none 0 0 0 NF NF as ρ f g Q
abbrev V_X9_isOf (Q : QT) (pc : Nat) (L st : List Value) (ρ : RT) (f : IT) (g : JT) : Prop := V yX9_isOf cX9_isOf 2 (some .boolean) 0 0 0 false Q NF NF 0 0 pc L st ρ f g
abbrev C_X9_isOf (as : List Value) (ρ : RT) (f : IT) (g : JT) (Q : QT) : Prop := Ct yX9_isOf cX9_isOf 2 (some .boolean) 0 0 0 NF NF as ρ f g Q
abbrev V_X9_isRest (Q : QT) (pc : Nat) (L st : List Value) (ρ : RT) (f : IT) (g : JT) : Prop := V yX9_isRest cX9_isRest 4 (some .boolean) 2 0 0 false Q NF NF 0 0 pc L st ρ f g
abbrev C_X9_isRest (as : List Value) (ρ : RT) (f : IT) (g : JT) (Q : QT) : Prop := Ct yX9_isRest cX9_isRest 4 (some .boolean) 2 0 0 NF NF as ρ f g Q
abbrev V_X9_least (Q : QT) (pc : Nat) (L st : List Value) (ρ : RT) (f : IT) (g : JT) : Prop := V yX9_least cX9_least 4 (some .int) 3 0 0 false Q NF NF 0 0 pc L st ρ f g
abbrev C_X9_least (as : List Value) (ρ : RT) (f : IT) (g : JT) (Q : QT) : Prop := Ct yX9_least cX9_least 4 (some .int) 3 0 0 NF NF as ρ f g Q
abbrev V_X9_loss (Q : QT) (pc : Nat) (L st : List Value) (ρ : RT) (f : IT) (g : JT) : Prop := V yX9_loss cX9_loss 4 (some .int) 1 0 0 false Q NF NF 0 0 pc L st ρ f g
abbrev C_X9_loss (as : List Value) (ρ : RT) (f : IT) (g : JT) (Q : QT) : Prop := Ct yX9_loss cX9_loss 4 (some .int) 1 0 0 NF NF as ρ f g Q
abbrev V_X9_sum (Q : QT) (pc : Nat) (L st : List Value) (ρ : RT) (f : IT) (g : JT) : Prop := V yX9_sum cX9_sum 4 (some .int) 2 0 0 false Q NF NF 0 0 pc L st ρ f g
abbrev C_X9_sum (as : List Value) (ρ : RT) (f : IT) (g : JT) (Q : QT) : Prop := Ct yX9_sum cX9_sum 4 (some .int) 2 0 0 NF NF as ρ f g Q
/-- the references that stay as the opening has laid them -/
def fixed : List (Nat × Nat × Nat) := [(0, 0, 1), (0, 2, 2), (0, 7, 55), (0, 8, 62), (0, 9, 63), (0, 11, 64), (0, 15, 65), (0, 16, 66), (0, 17, 72), (0, 18, 73), (0, 19, 81), (2, 0, 4), (2, 1, 3), (4, 0, 1), (5, 0, 6), (5, 1, 22), (6, 0, 7), (6, 1, 10), (6, 2, 13), (6, 3, 16), (6, 4, 19), (7, 2, 8), (7, 3, 9), (10, 2, 11), (10, 3, 12), (13, 2, 14), (13, 3, 15), (16, 2, 17), (16, 3, 18), (19, 2, 20), (19, 3, 21), (22, 0, 23), (22, 1, 24), (22, 3, 25), (22, 4, 26), (22, 5, 27), (22, 6, 28), (22, 7, 29), (30, 0, 31), (30, 1, 47), (31, 0, 32), (31, 1, 35), (31, 2, 38), (31, 3, 41), (31, 4, 44), (32, 2, 33), (32, 3, 34), (35, 2, 36), (35, 3, 37), (38, 2, 39), (38, 3, 40), (41, 2, 42), (41, 3, 43), (44, 2, 45), (44, 3, 46), (47, 0, 48), (47, 1, 49), (47, 3, 50), (47, 4, 51), (47, 5, 52), (47, 6, 53), (47, 7, 54), (55, 6, 56), (55, 7, 57), (55, 8, 58), (55, 9, 59), (55, 10, 60), (55, 11, 61), (66, 0, 55), (66, 1, 67), (73, 0, 74), (73, 1, 75), (73, 2, 76), (73, 3, 77), (73, 6, 78), (73, 7, 79), (73, 12, 80), (81, 1, 82), (81, 2, 83), (104, 0, 105), (104, 3, 106), (104, 30, 107), (104, 31, 108), (104, 32, 109), (104, 33, 110), (104, 34, 111), (104, 35, 112), (104, 36, 113), (104, 37, 114), (104, 38, 115), (104, 39, 116), (104, 40, 117), (104, 41, 118), (104, 42, 119), (104, 43, 120), (104, 44, 121), (104, 45, 122), (104, 46, 123), (104, 47, 124), (104, 48, 125), (104, 49, 126), (104, 50, 127), (104, 51, 128), (104, 52, 129), (104, 53, 130), (104, 54, 131), (104, 55, 132), (104, 56, 133), (104, 57, 134), (104, 64, 135), (104, 65, 136), (104, 81, 137), (104, 83, 138), (104, 84, 139), (104, 85, 140), (104, 86, 141), (104, 92, 142), (104, 93, 143), (104, 94, 144), (104, 95, 145), (104, 96, 146), (104, 101, 147)]
def Fx (ρ : RT) : Prop := ∀ q ∈ fixed, ρ q.1 q.2.1 = some q.2.2
theorem fx_0_0 {ρ : RT} (h : Fx ρ) : ρ 0 0 = some 1 := h (0, 0, 1) (by decide)
theorem fx_0_2 {ρ : RT} (h : Fx ρ) : ρ 0 2 = some 2 := h (0, 2, 2) (by decide)
theorem fx_0_7 {ρ : RT} (h : Fx ρ) : ρ 0 7 = some 55 := h (0, 7, 55) (by decide)
theorem fx_0_8 {ρ : RT} (h : Fx ρ) : ρ 0 8 = some 62 := h (0, 8, 62) (by decide)
theorem fx_0_9 {ρ : RT} (h : Fx ρ) : ρ 0 9 = some 63 := h (0, 9, 63) (by decide)
theorem fx_0_11 {ρ : RT} (h : Fx ρ) : ρ 0 11 = some 64 := h (0, 11, 64) (by decide)
theorem fx_0_15 {ρ : RT} (h : Fx ρ) : ρ 0 15 = some 65 := h (0, 15, 65) (by decide)
theorem fx_0_16 {ρ : RT} (h : Fx ρ) : ρ 0 16 = some 66 := h (0, 16, 66) (by decide)
theorem fx_0_17 {ρ : RT} (h : Fx ρ) : ρ 0 17 = some 72 := h (0, 17, 72) (by decide)
theorem fx_0_18 {ρ : RT} (h : Fx ρ) : ρ 0 18 = some 73 := h (0, 18, 73) (by decide)
theorem fx_0_19 {ρ : RT} (h : Fx ρ) : ρ 0 19 = some 81 := h (0, 19, 81) (by decide)
theorem fx_2_0 {ρ : RT} (h : Fx ρ) : ρ 2 0 = some 4 := h (2, 0, 4) (by decide)
theorem fx_2_1 {ρ : RT} (h : Fx ρ) : ρ 2 1 = some 3 := h (2, 1, 3) (by decide)
theorem fx_4_0 {ρ : RT} (h : Fx ρ) : ρ 4 0 = some 1 := h (4, 0, 1) (by decide)
theorem fx_5_0 {ρ : RT} (h : Fx ρ) : ρ 5 0 = some 6 := h (5, 0, 6) (by decide)
theorem fx_5_1 {ρ : RT} (h : Fx ρ) : ρ 5 1 = some 22 := h (5, 1, 22) (by decide)
theorem fx_6_0 {ρ : RT} (h : Fx ρ) : ρ 6 0 = some 7 := h (6, 0, 7) (by decide)
theorem fx_6_1 {ρ : RT} (h : Fx ρ) : ρ 6 1 = some 10 := h (6, 1, 10) (by decide)
theorem fx_6_2 {ρ : RT} (h : Fx ρ) : ρ 6 2 = some 13 := h (6, 2, 13) (by decide)
theorem fx_6_3 {ρ : RT} (h : Fx ρ) : ρ 6 3 = some 16 := h (6, 3, 16) (by decide)
theorem fx_6_4 {ρ : RT} (h : Fx ρ) : ρ 6 4 = some 19 := h (6, 4, 19) (by decide)
theorem fx_7_2 {ρ : RT} (h : Fx ρ) : ρ 7 2 = some 8 := h (7, 2, 8) (by decide)
theorem fx_7_3 {ρ : RT} (h : Fx ρ) : ρ 7 3 = some 9 := h (7, 3, 9) (by decide)
theorem fx_10_2 {ρ : RT} (h : Fx ρ) : ρ 10 2 = some 11 := h (10, 2, 11) (by decide)
theorem fx_10_3 {ρ : RT} (h : Fx ρ) : ρ 10 3 = some 12 := h (10, 3, 12) (by decide)
theorem fx_13_2 {ρ : RT} (h : Fx ρ) : ρ 13 2 = some 14 := h (13, 2, 14) (by decide)
theorem fx_13_3 {ρ : RT} (h : Fx ρ) : ρ 13 3 = some 15 := h (13, 3, 15) (by decide)
theorem fx_16_2 {ρ : RT} (h : Fx ρ) : ρ 16 2 = some 17 := h (16, 2, 17) (by decide)
theorem fx_16_3 {ρ : RT} (h : Fx ρ) : ρ 16 3 = some 18 := h (16, 3, 18) (by decide)
theorem fx_19_2 {ρ : RT} (h : Fx ρ) : ρ 19 2 = some 20 := h (19, 2, 20) (by decide)
theorem fx_19_3 {ρ : RT} (h : Fx ρ) : ρ 19 3 = some 21 := h (19, 3, 21) (by decide)
theorem fx_22_0 {ρ : RT} (h : Fx ρ) : ρ 22 0 = some 23 := h (22, 0, 23) (by decide)
theorem fx_22_1 {ρ : RT} (h : Fx ρ) : ρ 22 1 = some 24 := h (22, 1, 24) (by decide)
theorem fx_22_3 {ρ : RT} (h : Fx ρ) : ρ 22 3 = some 25 := h (22, 3, 25) (by decide)
theorem fx_22_4 {ρ : RT} (h : Fx ρ) : ρ 22 4 = some 26 := h (22, 4, 26) (by decide)
theorem fx_22_5 {ρ : RT} (h : Fx ρ) : ρ 22 5 = some 27 := h (22, 5, 27) (by decide)
theorem fx_22_6 {ρ : RT} (h : Fx ρ) : ρ 22 6 = some 28 := h (22, 6, 28) (by decide)
theorem fx_22_7 {ρ : RT} (h : Fx ρ) : ρ 22 7 = some 29 := h (22, 7, 29) (by decide)
theorem fx_30_0 {ρ : RT} (h : Fx ρ) : ρ 30 0 = some 31 := h (30, 0, 31) (by decide)
theorem fx_30_1 {ρ : RT} (h : Fx ρ) : ρ 30 1 = some 47 := h (30, 1, 47) (by decide)
theorem fx_31_0 {ρ : RT} (h : Fx ρ) : ρ 31 0 = some 32 := h (31, 0, 32) (by decide)
theorem fx_31_1 {ρ : RT} (h : Fx ρ) : ρ 31 1 = some 35 := h (31, 1, 35) (by decide)
theorem fx_31_2 {ρ : RT} (h : Fx ρ) : ρ 31 2 = some 38 := h (31, 2, 38) (by decide)
theorem fx_31_3 {ρ : RT} (h : Fx ρ) : ρ 31 3 = some 41 := h (31, 3, 41) (by decide)
theorem fx_31_4 {ρ : RT} (h : Fx ρ) : ρ 31 4 = some 44 := h (31, 4, 44) (by decide)
theorem fx_32_2 {ρ : RT} (h : Fx ρ) : ρ 32 2 = some 33 := h (32, 2, 33) (by decide)
theorem fx_32_3 {ρ : RT} (h : Fx ρ) : ρ 32 3 = some 34 := h (32, 3, 34) (by decide)
theorem fx_35_2 {ρ : RT} (h : Fx ρ) : ρ 35 2 = some 36 := h (35, 2, 36) (by decide)
theorem fx_35_3 {ρ : RT} (h : Fx ρ) : ρ 35 3 = some 37 := h (35, 3, 37) (by decide)
theorem fx_38_2 {ρ : RT} (h : Fx ρ) : ρ 38 2 = some 39 := h (38, 2, 39) (by decide)
theorem fx_38_3 {ρ : RT} (h : Fx ρ) : ρ 38 3 = some 40 := h (38, 3, 40) (by decide)
theorem fx_41_2 {ρ : RT} (h : Fx ρ) : ρ 41 2 = some 42 := h (41, 2, 42) (by decide)
theorem fx_41_3 {ρ : RT} (h : Fx ρ) : ρ 41 3 = some 43 := h (41, 3, 43) (by decide)
theorem fx_44_2 {ρ : RT} (h : Fx ρ) : ρ 44 2 = some 45 := h (44, 2, 45) (by decide)
theorem fx_44_3 {ρ : RT} (h : Fx ρ) : ρ 44 3 = some 46 := h (44, 3, 46) (by decide)
theorem fx_47_0 {ρ : RT} (h : Fx ρ) : ρ 47 0 = some 48 := h (47, 0, 48) (by decide)
theorem fx_47_1 {ρ : RT} (h : Fx ρ) : ρ 47 1 = some 49 := h (47, 1, 49) (by decide)
theorem fx_47_3 {ρ : RT} (h : Fx ρ) : ρ 47 3 = some 50 := h (47, 3, 50) (by decide)
theorem fx_47_4 {ρ : RT} (h : Fx ρ) : ρ 47 4 = some 51 := h (47, 4, 51) (by decide)
theorem fx_47_5 {ρ : RT} (h : Fx ρ) : ρ 47 5 = some 52 := h (47, 5, 52) (by decide)
theorem fx_47_6 {ρ : RT} (h : Fx ρ) : ρ 47 6 = some 53 := h (47, 6, 53) (by decide)
theorem fx_47_7 {ρ : RT} (h : Fx ρ) : ρ 47 7 = some 54 := h (47, 7, 54) (by decide)
theorem fx_55_6 {ρ : RT} (h : Fx ρ) : ρ 55 6 = some 56 := h (55, 6, 56) (by decide)
theorem fx_55_7 {ρ : RT} (h : Fx ρ) : ρ 55 7 = some 57 := h (55, 7, 57) (by decide)
theorem fx_55_8 {ρ : RT} (h : Fx ρ) : ρ 55 8 = some 58 := h (55, 8, 58) (by decide)
theorem fx_55_9 {ρ : RT} (h : Fx ρ) : ρ 55 9 = some 59 := h (55, 9, 59) (by decide)
theorem fx_55_10 {ρ : RT} (h : Fx ρ) : ρ 55 10 = some 60 := h (55, 10, 60) (by decide)
theorem fx_55_11 {ρ : RT} (h : Fx ρ) : ρ 55 11 = some 61 := h (55, 11, 61) (by decide)
theorem fx_66_0 {ρ : RT} (h : Fx ρ) : ρ 66 0 = some 55 := h (66, 0, 55) (by decide)
theorem fx_66_1 {ρ : RT} (h : Fx ρ) : ρ 66 1 = some 67 := h (66, 1, 67) (by decide)
theorem fx_73_0 {ρ : RT} (h : Fx ρ) : ρ 73 0 = some 74 := h (73, 0, 74) (by decide)
theorem fx_73_1 {ρ : RT} (h : Fx ρ) : ρ 73 1 = some 75 := h (73, 1, 75) (by decide)
theorem fx_73_2 {ρ : RT} (h : Fx ρ) : ρ 73 2 = some 76 := h (73, 2, 76) (by decide)
theorem fx_73_3 {ρ : RT} (h : Fx ρ) : ρ 73 3 = some 77 := h (73, 3, 77) (by decide)
theorem fx_73_6 {ρ : RT} (h : Fx ρ) : ρ 73 6 = some 78 := h (73, 6, 78) (by decide)
theorem fx_73_7 {ρ : RT} (h : Fx ρ) : ρ 73 7 = some 79 := h (73, 7, 79) (by decide)
theorem fx_73_12 {ρ : RT} (h : Fx ρ) : ρ 73 12 = some 80 := h (73, 12, 80) (by decide)
theorem fx_81_1 {ρ : RT} (h : Fx ρ) : ρ 81 1 = some 82 := h (81, 1, 82) (by decide)
theorem fx_81_2 {ρ : RT} (h : Fx ρ) : ρ 81 2 = some 83 := h (81, 2, 83) (by decide)
theorem fx_104_0 {ρ : RT} (h : Fx ρ) : ρ 104 0 = some 105 := h (104, 0, 105) (by decide)
theorem fx_104_3 {ρ : RT} (h : Fx ρ) : ρ 104 3 = some 106 := h (104, 3, 106) (by decide)
theorem fx_104_30 {ρ : RT} (h : Fx ρ) : ρ 104 30 = some 107 := h (104, 30, 107) (by decide)
theorem fx_104_31 {ρ : RT} (h : Fx ρ) : ρ 104 31 = some 108 := h (104, 31, 108) (by decide)
theorem fx_104_32 {ρ : RT} (h : Fx ρ) : ρ 104 32 = some 109 := h (104, 32, 109) (by decide)
theorem fx_104_33 {ρ : RT} (h : Fx ρ) : ρ 104 33 = some 110 := h (104, 33, 110) (by decide)
theorem fx_104_34 {ρ : RT} (h : Fx ρ) : ρ 104 34 = some 111 := h (104, 34, 111) (by decide)
theorem fx_104_35 {ρ : RT} (h : Fx ρ) : ρ 104 35 = some 112 := h (104, 35, 112) (by decide)
theorem fx_104_36 {ρ : RT} (h : Fx ρ) : ρ 104 36 = some 113 := h (104, 36, 113) (by decide)
theorem fx_104_37 {ρ : RT} (h : Fx ρ) : ρ 104 37 = some 114 := h (104, 37, 114) (by decide)
theorem fx_104_38 {ρ : RT} (h : Fx ρ) : ρ 104 38 = some 115 := h (104, 38, 115) (by decide)
theorem fx_104_39 {ρ : RT} (h : Fx ρ) : ρ 104 39 = some 116 := h (104, 39, 116) (by decide)
theorem fx_104_40 {ρ : RT} (h : Fx ρ) : ρ 104 40 = some 117 := h (104, 40, 117) (by decide)
theorem fx_104_41 {ρ : RT} (h : Fx ρ) : ρ 104 41 = some 118 := h (104, 41, 118) (by decide)
theorem fx_104_42 {ρ : RT} (h : Fx ρ) : ρ 104 42 = some 119 := h (104, 42, 119) (by decide)
theorem fx_104_43 {ρ : RT} (h : Fx ρ) : ρ 104 43 = some 120 := h (104, 43, 120) (by decide)
theorem fx_104_44 {ρ : RT} (h : Fx ρ) : ρ 104 44 = some 121 := h (104, 44, 121) (by decide)
theorem fx_104_45 {ρ : RT} (h : Fx ρ) : ρ 104 45 = some 122 := h (104, 45, 122) (by decide)
theorem fx_104_46 {ρ : RT} (h : Fx ρ) : ρ 104 46 = some 123 := h (104, 46, 123) (by decide)
theorem fx_104_47 {ρ : RT} (h : Fx ρ) : ρ 104 47 = some 124 := h (104, 47, 124) (by decide)
theorem fx_104_48 {ρ : RT} (h : Fx ρ) : ρ 104 48 = some 125 := h (104, 48, 125) (by decide)
theorem fx_104_49 {ρ : RT} (h : Fx ρ) : ρ 104 49 = some 126 := h (104, 49, 126) (by decide)
theorem fx_104_50 {ρ : RT} (h : Fx ρ) : ρ 104 50 = some 127 := h (104, 50, 127) (by decide)
theorem fx_104_51 {ρ : RT} (h : Fx ρ) : ρ 104 51 = some 128 := h (104, 51, 128) (by decide)
theorem fx_104_52 {ρ : RT} (h : Fx ρ) : ρ 104 52 = some 129 := h (104, 52, 129) (by decide)
theorem fx_104_53 {ρ : RT} (h : Fx ρ) : ρ 104 53 = some 130 := h (104, 53, 130) (by decide)
theorem fx_104_54 {ρ : RT} (h : Fx ρ) : ρ 104 54 = some 131 := h (104, 54, 131) (by decide)
theorem fx_104_55 {ρ : RT} (h : Fx ρ) : ρ 104 55 = some 132 := h (104, 55, 132) (by decide)
theorem fx_104_56 {ρ : RT} (h : Fx ρ) : ρ 104 56 = some 133 := h (104, 56, 133) (by decide)
theorem fx_104_57 {ρ : RT} (h : Fx ρ) : ρ 104 57 = some 134 := h (104, 57, 134) (by decide)
theorem fx_104_64 {ρ : RT} (h : Fx ρ) : ρ 104 64 = some 135 := h (104, 64, 135) (by decide)
theorem fx_104_65 {ρ : RT} (h : Fx ρ) : ρ 104 65 = some 136 := h (104, 65, 136) (by decide)
theorem fx_104_81 {ρ : RT} (h : Fx ρ) : ρ 104 81 = some 137 := h (104, 81, 137) (by decide)
theorem fx_104_83 {ρ : RT} (h : Fx ρ) : ρ 104 83 = some 138 := h (104, 83, 138) (by decide)
theorem fx_104_84 {ρ : RT} (h : Fx ρ) : ρ 104 84 = some 139 := h (104, 84, 139) (by decide)
theorem fx_104_85 {ρ : RT} (h : Fx ρ) : ρ 104 85 = some 140 := h (104, 85, 140) (by decide)
theorem fx_104_86 {ρ : RT} (h : Fx ρ) : ρ 104 86 = some 141 := h (104, 86, 141) (by decide)
theorem fx_104_92 {ρ : RT} (h : Fx ρ) : ρ 104 92 = some 142 := h (104, 92, 142) (by decide)
theorem fx_104_93 {ρ : RT} (h : Fx ρ) : ρ 104 93 = some 143 := h (104, 93, 143) (by decide)
theorem fx_104_94 {ρ : RT} (h : Fx ρ) : ρ 104 94 = some 144 := h (104, 94, 144) (by decide)
theorem fx_104_95 {ρ : RT} (h : Fx ρ) : ρ 104 95 = some 145 := h (104, 95, 145) (by decide)
theorem fx_104_96 {ρ : RT} (h : Fx ρ) : ρ 104 96 = some 146 := h (104, 96, 146) (by decide)
theorem fx_104_101 {ρ : RT} (h : Fx ρ) : ρ 104 101 = some 147 := h (104, 101, 147) (by decide)
