def Gr_leastPlace_32 {ρ : Type} (kr : Int → zH → Option ρ) (r4 : Int → Int → Int → zH → Option ρ) (a0 a1 a2 : Int) (h : zH) : Option ρ :=
r4 a0 a1 (wr (a2 + 1)) h
def Gr_leastPlace_30 {ρ : Type} (kr : Int → zH → Option ρ) (r4 : Int → Int → Int → zH → Option ρ) (a0 a2 a3 : Int) (h : zH) : Option ρ :=
Gr_leastPlace_32 kr r4 a0 a3 a2 h
def Gr_leastPlace_4b {ρ : Type} (kr : Int → zH → Option ρ) (r4 : Int → Int → Int → zH → Option ρ) (a0 a1 a2 : Int) (h : zH) : Option ρ :=
if a2 < 4 then (zob h 11 a0 fun _ =>
Gr_placeIn a0 a2 h  fun v1 h2 =>
if v1 = (-1) then Gr_leastPlace_32 kr r4 a0 a1 a2 h2
else if a1 = (-1) then Gr_leastPlace_30 kr r4 a0 a2 v1 h2
else if v1 < a1 then Gr_leastPlace_30 kr r4 a0 a2 v1 h2
else Gr_leastPlace_32 kr r4 a0 a1 a2 h2)
else kr a1 h
def Gr_leastPlace_4 {ρ : Type} (kr : Int → zH → Option ρ) : Int → Int → Int → zH → Option ρ := zit (fun _ _ _ _ => none) (Gr_leastPlace_4b kr) zN
def Gr_leastPlace {ρ : Type} (a0 : Int) (h : zH) (kr : Int → zH → Option ρ) : Option ρ :=
Gr_leastPlace_4 kr a0 (-1) 0 h
def Gr_lanesUnderMask_34 {ρ : Type} (kr : Int → zH → Option ρ) (r9 : Int → Int → Int → Int → zH → Option ρ) (a0 a1 a2 a3 : Int) (h : zH) : Option ρ :=
r9 a0 a1 a2 (wr (a3 + 1)) h
def Gr_lanesUnderMask_9b {ρ : Type} (kr : Int → zH → Option ρ) (r9 : Int → Int → Int → Int → zH → Option ρ) (a0 a1 a2 a3 : Int) (h : zH) : Option ρ :=
if a3 < 4 then (if a1 = (-1) then Gr_lanesUnderMask_34 kr r9 a0 a1 a2 a3 h
else zob h 11 a0 fun _ =>
Gr_placeIn a0 a3 h  fun v1 h2 =>
if v1 = a1 then Gr_lanesUnderMask_34 kr r9 a0 a1 (zor a2 (zshl 1 a3)) a3 h2
else Gr_lanesUnderMask_34 kr r9 a0 a1 a2 a3 h2)
else kr a2 h
def Gr_lanesUnderMask_9 {ρ : Type} (kr : Int → zH → Option ρ) : Int → Int → Int → Int → zH → Option ρ := zit (fun _ _ _ _ _ => none) (Gr_lanesUnderMask_9b kr) zN
def Gr_lanesUnderMask {ρ : Type} (a0 : Int) (h : zH) (kr : Int → zH → Option ρ) : Option ρ :=
zob h 11 a0 fun _ =>
Gr_leastPlace a0 h  fun v1 h2 =>
Gr_lanesUnderMask_9 kr a0 v1 0 0 h2
def Ke_instructionAt_24 {ρ : Type} (kr : Int → zH → Option ρ) (t0 : Int) (h : zH) : Option ρ :=
kr t0 h
def Ke_instructionAt {ρ : Type} (a0 a1 : Int) (h : zH) (kr : Int → zH → Option ρ) : Option ρ :=
zob h 7 a0 fun p1 =>
X_isWithin a1 0 (wr ((zhD h 7 p1 3) - 1)) h  fun v2 h3 =>
if v2 = 0 then Ke_instructionAt_24 kr (-1) h3
else zob h3 7 a0 fun p4 =>
zob h3 33 (zhD h3 7 p4 2) fun p5 =>
zix (zhL h3 33 p5) a1 fun j6 =>
Ke_instructionAt_24 kr (zhD h3 33 p5 j6) h3
def Th_goOn_88 {ρ : Type} (kr : Int → zH → Option ρ) (h : zH) : Option ρ :=
kr 0 h
def Th_goOn_65 {ρ : Type} (kr : Int → zH → Option ρ) (a0 a1 a2 : Int) (h : zH) : Option ρ :=
zob h 8 a1 fun p1 =>
zob h 6 a0 fun _ =>
Th_goTo a0 (zhD h 8 p1 2) a2 h  fun _ h3 =>
Th_goOn_88 kr h3
def Th_goOn_77 {ρ : Type} (kr : Int → zH → Option ρ) (a0 a2 : Int) (h : zH) : Option ρ :=
zob h 6 a0 fun p1 =>
zob h 6 a0 fun _ =>
Th_goTo a0 (wr ((zhD h 6 p1 3) + 1)) a2 h  fun _ h3 =>
Th_goOn_88 kr h3
def Th_goOn {ρ : Type} (a0 a1 a2 : Int) (h : zH) (kr : Int → zH → Option ρ) : Option ρ :=
zob h 8 a1 fun p1 =>
if (zhD h 8 p1 0) = 98 then (zob h 6 a0 fun p10 =>
zlet (zset h 6 p10 4 119) fun h11 =>
Th_goOn_88 kr h11)
else zob h 8 a1 fun p2 =>
if (zhD h 8 p2 0) = 101 then (zob h 6 a0 fun p8 =>
zlet (zset h 6 p8 4 101) fun h9 =>
Th_goOn_88 kr h9)
else zob h 8 a1 fun p3 =>
if (zhD h 8 p3 0) = 106 then Th_goOn_65 kr a0 a1 a2 h
else zob h 8 a1 fun p4 =>
if (zhD h 8 p4 0) = 122 then (zob h 8 a1 fun p5 =>
zob h 6 a0 fun _ =>
Th_at a0 (zhD h 8 p5 1) h  fun v6 h7 =>
if v6 = 0 then Th_goOn_65 kr a0 a1 a2 h7
else Th_goOn_77 kr a0 a2 h7)
else Th_goOn_77 kr a0 a2 h
def Co_carryOut_160 {ρ : Type} (kr : Int → zH → Option ρ) (r63 : Int → Int → Int → Int → Int → Int → Int → zH → Option ρ) (a0 a1 a2 a3 a4 a5 a6 : Int) (h : zH) : Option ρ :=
r63 a0 a1 a2 a3 a4 a5 (wr (a6 + 1)) h
def Co_carryOut_63b {ρ : Type} (kr : Int → zH → Option ρ) (r63 : Int → Int → Int → Int → Int → Int → Int → zH → Option ρ) (a0 a1 a2 a3 a4 a5 a6 : Int) (h : zH) : Option ρ :=
if a6 < 4 then (zob h 11 a2 fun _ =>
Gr_threadIn a2 a6 h  fun v6 h7 =>
if v6 < 0 then Co_carryOut_160 kr r63 a0 a1 a2 a3 a4 a5 a6 h7
else zob h7 2 a0 fun p8 =>
X_isIn (zhD h7 2 p8 8) a6 h7  fun v9 h10 =>
if v9 = 0 then Co_carryOut_160 kr r63 a0 a1 a2 a3 a4 a5 a6 h10
else zob h10 2 a0 fun _ =>
Co_carryLane a0 a2 a6 v6 a5 h10  fun v11 h12 =>
if v11 = 45 then (zob h12 7 a4 fun p13 =>
zob h12 6 v6 fun _ =>
Th_goOn v6 a5 (zhD h12 7 p13 3) h12  fun _ h15 =>
zob h15 2 a0 fun p16 =>
zob h15 4 (zhD h15 2 p16 3) fun p17 =>
zob h15 4 (zhD h15 2 p16 3) fun p18 =>
zlet (zset h15 4 p18 1 (wrl ((zhD h15 4 p17 1) + 1))) fun h19 =>
Co_carryOut_160 kr r63 a0 a1 a2 a3 a4 a5 a6 h19)
else zob h12 11 a2 fun p20 =>
zob h12 6 v6 fun p21 =>
zob h12 2 a0 fun _ =>
Co_fail a0 (zhD h12 11 p20 0) (zhD h12 6 p21 0) a3 v11 h12  fun _ h23 =>
kr 0 h23)
else zob h 2 a0 fun p1 =>
zob h 2 a0 fun _ =>
Co_countedDelay a0 a1 a5 h  fun v2 h3 =>
zob h3 11 a2 fun p4 =>
zlet (zset h3 11 p4 6 (wr ((zhD h 2 p1 4) + v2))) fun h5 =>
kr 1 h5
def Co_carryOut_63 {ρ : Type} (kr : Int → zH → Option ρ) : Int → Int → Int → Int → Int → Int → Int → zH → Option ρ := zit (fun _ _ _ _ _ _ _ _ => none) (Co_carryOut_63b kr) zN
def Co_carryOut {ρ : Type} (a0 a1 a2 : Int) (h : zH) (kr : Int → zH → Option ρ) : Option ρ :=
zob h 11 a2 fun _ =>
Gr_leastPlace a2 h  fun v1 h2 =>
zob h2 11 a2 fun p3 =>
zob h2 10 (zhD h2 11 p3 0) fun p4 =>
zob h2 9 (zhD h2 10 p4 0) fun p5 =>
zob h2 7 (zhD h2 9 p5 5) fun _ =>
Ke_instructionAt (zhD h2 9 p5 5) v1 h2  fun v6 h7 =>
if v6 < 0 then kr 0 h7
else zob h7 2 a0 fun p8 =>
zob h7 4 (zhD h7 2 p8 3) fun p9 =>
zob h7 4 (zhD h7 2 p8 3) fun p10 =>
zlet (zset h7 4 p10 0 (wrl ((zhD h7 4 p9 0) + 1))) fun h11 =>
zob h11 11 a2 fun _ =>
Gr_lanesUnderMask a2 h11  fun v12 h13 =>
zob h13 2 a0 fun p14 =>
zlet (zset h13 2 p14 8 v12) fun h15 =>
zob h15 2 a0 fun _ =>
Co_lookAhead a0 a2 v6 h15  fun _ h17 =>
Co_carryOut_63 kr a0 a1 a2 v1 (zhD h2 9 p5 5) v6 0 h17
def Bl_isAllWaiting_35 {ρ : Type} (kr : Int → zH → Option ρ) (t0 : Int) (h : zH) : Option ρ :=
znar 1 t0 fun x1 => kr x1 h
def Bl_isAllWaiting_34 {ρ : Type} (kr : Int → zH → Option ρ) (h : zH) : Option ρ :=
Bl_isAllWaiting_35 kr 0 h
def Bl_isAllWaiting {ρ : Type} (a0 : Int) (h : zH) (kr : Int → zH → Option ρ) : Option ρ :=
zob h 10 a0 fun p1 =>
zob h 10 a0 fun p2 =>
zob h 36 (zhD h 10 p2 2) fun p3 =>
Th_isAnyRunning (zhD h 10 p1 2) (zhL h 36 p3 : Int) h  fun v4 h5 =>
if v4 = 0 then (zob h5 10 a0 fun p6 =>
zob h5 10 a0 fun p7 =>
zob h5 36 (zhD h5 10 p7 2) fun p8 =>
Th_lowestOfWaiting_36 (zhD h5 10 p6 2) (zhL h5 36 p8 : Int) h5  fun v9 h10 =>
if v9 < 0 then Bl_isAllWaiting_34 kr h10
else Bl_isAllWaiting_35 kr 1 h10)
else Bl_isAllWaiting_34 kr h5
def Th_isEnded_14 {ρ : Type} (kr : Int → zH → Option ρ) (t0 : Int) (h : zH) : Option ρ :=
znar 1 t0 fun x1 => kr x1 h
def Th_isEnded {ρ : Type} (a0 : Int) (h : zH) (kr : Int → zH → Option ρ) : Option ρ :=
zob h 6 a0 fun p1 =>
if (zhD h 6 p1 4) = 101 then Th_isEnded_14 kr 1 h
else Th_isEnded_14 kr 0 h
def Gr_hasEnded_26 {ρ : Type} (kr : Int → zH → Option ρ) (r2 : Int → Int → zH → Option ρ) (a0 a1 : Int) (h : zH) : Option ρ :=
r2 a0 (wr (a1 + 1)) h
def Gr_hasEnded_2b {ρ : Type} (kr : Int → zH → Option ρ) (r2 : Int → Int → zH → Option ρ) (a0 a1 : Int) (h : zH) : Option ρ :=
if a1 < 4 then (zob h 11 a0 fun _ =>
Gr_threadIn a0 a1 h  fun v1 h2 =>
if v1 < 0 then Gr_hasEnded_26 kr r2 a0 a1 h2
else zob h2 6 v1 fun _ =>
Th_isEnded v1 h2  fun v3 h4 =>
if v3 = 0 then kr 0 h4
else Gr_hasEnded_26 kr r2 a0 a1 h4)
else kr 1 h
def Gr_hasEnded_2 {ρ : Type} (kr : Int → zH → Option ρ) : Int → Int → zH → Option ρ := zit (fun _ _ _ => none) (Gr_hasEnded_2b kr) zN
def Gr_hasEnded {ρ : Type} (a0 : Int) (h : zH) (kr : Int → zH → Option ρ) : Option ρ :=
Gr_hasEnded_2 kr a0 0 h
def Bl_writeEndedGroups_34 {ρ : Type} (kr : Int → zH → Option ρ) (r2 : Int → Int → Int → zH → Option ρ) (a0 a1 a2 : Int) (h : zH) : Option ρ :=
r2 a0 a1 (wr (a2 + 1)) h
def Bl_writeEndedGroups_2b {ρ : Type} (kr : Int → zH → Option ρ) (r2 : Int → Int → Int → zH → Option ρ) (a0 a1 a2 : Int) (h : zH) : Option ρ :=
zob h 10 a0 fun p1 =>
zob h 37 (zhD h 10 p1 3) fun p2 =>
if a2 < (zhL h 37 p2 : Int) then (zob h 10 a0 fun p3 =>
zob h 37 (zhD h 10 p3 3) fun p4 =>
zix (zhL h 37 p4) a2 fun j5 =>
zob h 11 (zhD h 37 p4 j5) fun _ =>
Gr_hasEnded (zhD h 37 p4 j5) h  fun v6 h7 =>
if v6 = 0 then Bl_writeEndedGroups_34 kr r2 a0 a1 a2 h7
else zob h7 10 a0 fun p8 =>
zob h7 37 (zhD h7 10 p8 3) fun p9 =>
zix (zhL h7 37 p9) a2 fun j10 =>
zob h7 11 (zhD h7 37 p9 j10) fun _ =>
Gr_writeAll (zhD h7 37 p9 j10) a1 h7  fun v11 h12 =>
Bl_writeEndedGroups_34 kr r2 a0 a1 a2 h12)
else kr 0 h
def Bl_writeEndedGroups_2 {ρ : Type} (kr : Int → zH → Option ρ) : Int → Int → Int → zH → Option ρ := zit (fun _ _ _ _ => none) (Bl_writeEndedGroups_2b kr) zN
def Bl_writeEndedGroups {ρ : Type} (a0 a1 : Int) (h : zH) (kr : Int → zH → Option ρ) : Option ρ :=
Bl_writeEndedGroups_2 kr a0 a1 0 h
def Bl_lowestWaiting {ρ : Type} (a0 : Int) (h : zH) (kr : Int → zH → Option ρ) : Option ρ :=
zob h 10 a0 fun p1 =>
zob h 10 a0 fun p2 =>
zob h 36 (zhD h 10 p2 2) fun p3 =>
Th_lowestOfWaiting_36 (zhD h 10 p1 2) (zhL h 36 p3 : Int) h  fun v4 h5 =>
kr v4 h5
def Th_release_36_39 {ρ : Type} (kr : Int → zH → Option ρ) (r3 : Int → Int → Int → Int → Int → zH → Option ρ) (a0 a1 a2 a3 a4 : Int) (h : zH) : Option ρ :=
r3 a0 a1 a2 a3 (wr (a4 + 1)) h
def Th_release_36_91 {ρ : Type} (kr : Int → zH → Option ρ) (r48 : Int → Int → Int → Int → Int → zH → Option ρ) (a0 a1 a2 a3 a4 : Int) (h : zH) : Option ρ :=
r48 a0 a1 a2 a3 (wr (a4 + 1)) h
def Th_release_36_97 {ρ : Type} (kr : Int → zH → Option ρ) (h : zH) : Option ρ :=
kr 1 h
def Th_release_36_48b {ρ : Type} (kr : Int → zH → Option ρ) (r48 : Int → Int → Int → Int → Int → zH → Option ρ) (a0 a1 a2 a3 a4 : Int) (h : zH) : Option ρ :=
if a4 < a1 then (zob h 36 a0 fun p1 =>
if a4 < (zhL h 36 p1 : Int) then (zob h 36 a0 fun p2 =>
zix (zhL h 36 p2) a4 fun j3 =>
zob h 6 (zhD h 36 p2 j3) fun _ =>
Th_isWaiting (zhD h 36 p2 j3) h  fun v4 h5 =>
if v4 = 0 then Th_release_36_91 kr r48 a0 a1 a2 a3 a4 h5
else zob h5 36 a0 fun p6 =>
zix (zhL h5 36 p6) a4 fun j7 =>
zob h5 6 (zhD h5 36 p6 j7) fun p8 =>
zlet (zset h5 6 p8 4 114) fun h9 =>
zob h9 36 a0 fun p10 =>
zix (zhL h9 36 p10) a4 fun j11 =>
zob h9 6 (zhD h9 36 p10 j11) fun _ =>
Th_goTo (zhD h9 36 p10 j11) (wr (a2 + 1)) a3 h9  fun _ h13 =>
Th_release_36_91 kr r48 a0 a1 a2 a3 a4 h13)
else Th_release_36_97 kr h)
else Th_release_36_97 kr h
def Th_release_36_48 {ρ : Type} (kr : Int → zH → Option ρ) : Int → Int → Int → Int → Int → zH → Option ρ := zit (fun _ _ _ _ _ _ => none) (Th_release_36_48b kr) zN
def Th_release_36_45 {ρ : Type} (kr : Int → zH → Option ρ) (a0 a1 a2 a3 : Int) (h : zH) : Option ρ :=
Th_release_36_48 kr a0 a1 a2 a3 0 h
def Th_release_36_3b {ρ : Type} (kr : Int → zH → Option ρ) (r3 : Int → Int → Int → Int → Int → zH → Option ρ) (a0 a1 a2 a3 a4 : Int) (h : zH) : Option ρ :=
if a4 < a1 then (zob h 36 a0 fun p1 =>
if a4 < (zhL h 36 p1 : Int) then (zob h 36 a0 fun p2 =>
zix (zhL h 36 p2) a4 fun j3 =>
zob h 6 (zhD h 36 p2 j3) fun _ =>
Th_isWaiting (zhD h 36 p2 j3) h  fun v4 h5 =>
if v4 = 0 then Th_release_36_39 kr r3 a0 a1 a2 a3 a4 h5
else zob h5 36 a0 fun p6 =>
zix (zhL h5 36 p6) a4 fun j7 =>
zob h5 6 (zhD h5 36 p6 j7) fun p8 =>
if (zhD h5 6 p8 3) = a2 then Th_release_36_39 kr r3 a0 a1 a2 a3 a4 h5
else kr 0 h5)
else Th_release_36_45 kr a0 a1 a2 a3 h)
else Th_release_36_45 kr a0 a1 a2 a3 h
def Th_release_36_3 {ρ : Type} (kr : Int → zH → Option ρ) : Int → Int → Int → Int → Int → zH → Option ρ := zit (fun _ _ _ _ _ _ => none) (Th_release_36_3b kr) zN
def Th_release_36 {ρ : Type} (a0 a1 a2 a3 : Int) (h : zH) (kr : Int → zH → Option ρ) : Option ρ :=
Th_release_36_3 kr a0 a1 a2 a3 0 h
def Bl_passBarrier {ρ : Type} (a0 a1 : Int) (h : zH) (kr : Int → zH → Option ρ) : Option ρ :=
zob h 10 a0 fun p1 =>
zob h 10 a0 fun p2 =>
zob h 36 (zhD h 10 p2 2) fun p3 =>
zob h 10 a0 fun p4 =>
zob h 9 (zhD h 10 p4 0) fun p5 =>
zob h 7 (zhD h 9 p5 5) fun p6 =>
Th_release_36 (zhD h 10 p1 2) (zhL h 36 p3 : Int) a1 (zhD h 7 p6 3) h  fun v7 h8 =>
if v7 = 0 then kr 0 h8
else zob h8 10 a0 fun p9 =>
Ar_fill_39 (zhD h8 10 p9 5) 0 h8  fun _ h11 =>
zob h11 10 a0 fun p12 =>
Ar_fill_40 (zhD h11 10 p12 6) 0 h11  fun _ h14 =>
kr 1 h14
def Co_lookAtBarrier_52 {ρ : Type} (kr : Int → zH → Option ρ) (h : zH) : Option ρ :=
kr 0 h
def Co_lookAtBarrier {ρ : Type} (a0 a1 : Int) (h : zH) (kr : Int → zH → Option ρ) : Option ρ :=
zob h 10 a1 fun _ =>
Bl_lowestWaiting a1 h  fun v1 h2 =>
if v1 < 0 then kr 0 h2
else zob h2 6 v1 fun p3 =>
zob h2 10 a1 fun _ =>
Bl_passBarrier a1 (zhD h2 6 p3 3) h2  fun v4 h5 =>
if v4 = 0 then (zob h5 6 v1 fun p6 =>
zob h5 6 v1 fun p7 =>
zob h5 2 a0 fun _ =>
Co_fail a0 a1 (zhD h5 6 p6 0) (zhD h5 6 p7 3) 98 h5  fun _ h9 =>
Co_lookAtBarrier_52 kr h9)
else zob h5 2 a0 fun p10 =>
zob h5 4 (zhD h5 2 p10 3) fun p11 =>
zob h5 4 (zhD h5 2 p10 3) fun p12 =>
zlet (zset h5 4 p12 6 (wr ((zhD h5 4 p11 6) + 1))) fun h13 =>
Co_lookAtBarrier_52 kr h13
def Co_settle_20 {ρ : Type} (kr : Int → zH → Option ρ) (a0 a1 : Int) (h : zH) : Option ρ :=
zob h 2 a0 fun _ =>
Co_endIfEnded a0 a1 h  fun _ h2 =>
kr 0 h2
def Co_settle {ρ : Type} (a0 a1 : Int) (h : zH) (kr : Int → zH → Option ρ) : Option ρ :=
zob h 2 a0 fun p1 =>
zob h 10 a1 fun _ =>
Bl_writeEndedGroups a1 (zhD h 2 p1 1) h  fun _ h3 =>
zob h3 10 a1 fun _ =>
Bl_isAllWaiting a1 h3  fun v4 h5 =>
if v4 = 0 then Co_settle_20 kr a0 a1 h5
else zob h5 2 a0 fun _ =>
Co_lookAtBarrier a0 a1 h5  fun _ h7 =>
Co_settle_20 kr a0 a1 h7
def La_isSpoiled_23 {ρ : Type} (kr : Int → zH → Option ρ) (t0 : Int) (h : zH) : Option ρ :=
znar 1 t0 fun x1 => kr x1 h
def La_isSpoiled_18 {ρ : Type} (kr : Int → zH → Option ρ) (h : zH) : Option ρ :=
La_isSpoiled_23 kr 1 h
def La_isSpoiled {ρ : Type} (a0 : Int) (h : zH) (kr : Int → zH → Option ρ) : Option ρ :=
zob h 9 a0 fun p1 =>
if (zhD h 9 p1 10) = 102 then La_isSpoiled_18 kr h
else zob h 9 a0 fun p2 =>
if (zhD h 9 p2 10) = 120 then La_isSpoiled_18 kr h
else La_isSpoiled_23 kr 0 h
def Le_decide_66 {ρ : Type} (kr : Int → zH → Option ρ) (h : zH) : Option ρ :=
kr 0 h
def Le_decide_34 {ρ : Type} (kr : Int → zH → Option ρ) (a0 : Int) (h : zH) : Option ρ :=
zob h 9 a0 fun p1 =>
zlet (zset h 9 p1 10 120) fun h2 =>
Le_decide_66 kr h2
def Le_decide_60 {ρ : Type} (kr : Int → zH → Option ρ) (a0 : Int) (h : zH) : Option ρ :=
zob h 9 a0 fun p1 =>
zlet (zset h 9 p1 10 114) fun h2 =>
Le_decide_66 kr h2
def Le_decide_43 {ρ : Type} (kr : Int → zH → Option ρ) (a0 : Int) (h : zH) : Option ρ :=
zob h 9 a0 fun p1 =>
if (zhD h 9 p1 3) < 0 then Le_decide_60 kr a0 h
else zob h 9 a0 fun p2 =>
zob h 9 (zhD h 9 p2 3) fun _ =>
La_isOver (zhD h 9 p2 3) h  fun v3 h4 =>
if v3 = 0 then Le_decide_66 kr h4
else Le_decide_60 kr a0 h4
def Le_decide_17 {ρ : Type} (kr : Int → zH → Option ρ) (a0 : Int) (h : zH) : Option ρ :=
zob h 9 a0 fun p1 =>
if (zhD h 9 p1 3) < 0 then Le_decide_43 kr a0 h
else zob h 9 a0 fun p2 =>
zob h 9 (zhD h 9 p2 3) fun _ =>
La_isSpoiled (zhD h 9 p2 3) h  fun v3 h4 =>
if v3 = 0 then Le_decide_43 kr a0 h4
else Le_decide_34 kr a0 h4
def Le_decide {ρ : Type} (a0 : Int) (h : zH) (kr : Int → zH → Option ρ) : Option ρ :=
zob h 9 a0 fun p1 =>
if (zhD h 9 p1 2) < 0 then Le_decide_17 kr a0 h
else zob h 9 a0 fun p2 =>
zob h 9 (zhD h 9 p2 2) fun _ =>
La_isSpoiled (zhD h 9 p2 2) h  fun v3 h4 =>
if v3 = 0 then Le_decide_17 kr a0 h4
else Le_decide_34 kr a0 h4
def Le_startIn_56 {ρ : Type} (kr : Int → zH → Option ρ) (r2 : Int → Int → Int → zH → Option ρ) (a0 a1 a2 : Int) (h : zH) : Option ρ :=
r2 a0 a1 (wr (a2 + 1)) h
def Le_startIn_48 {ρ : Type} (kr : Int → zH → Option ρ) (r2 : Int → Int → Int → zH → Option ρ) (a0 a1 a2 a3 : Int) (h : zH) : Option ρ :=
zob h 9 a3 fun _ =>
La_isOver a3 h  fun v1 h2 =>
if v1 = 0 then kr 0 h2
else Le_startIn_56 kr r2 a0 a1 a2 h2
def Le_startIn_2b {ρ : Type} (kr : Int → zH → Option ρ) (r2 : Int → Int → Int → zH → Option ρ) (a0 a1 a2 : Int) (h : zH) : Option ρ :=
zob h 1 a0 fun p1 =>
if a2 < (zhD h 1 p1 3) then (zob h 1 a0 fun p2 =>
zob h 21 (zhD h 1 p2 1) fun p3 =>
zix (zhL h 21 p3) a2 fun j4 =>
zob h 9 (zhD h 21 p3 j4) fun p5 =>
if (zhD h 9 p5 1) = a1 then (zob h 9 (zhD h 21 p3 j4) fun _ =>
La_isOver (zhD h 21 p3 j4) h  fun v6 h7 =>
if v6 = 0 then (zob h7 9 (zhD h 21 p3 j4) fun p8 =>
if (zhD h7 9 p8 10) = 113 then (Le_decide (zhD h 21 p3 j4) h7  fun _ h10 =>
Le_startIn_48 kr r2 a0 a1 a2 (zhD h 21 p3 j4) h10)
else Le_startIn_48 kr r2 a0 a1 a2 (zhD h 21 p3 j4) h7)
else Le_startIn_56 kr r2 a0 a1 a2 h7)
else Le_startIn_56 kr r2 a0 a1 a2 h)
else kr 0 h
def Le_startIn_2 {ρ : Type} (kr : Int → zH → Option ρ) : Int → Int → Int → zH → Option ρ := zit (fun _ _ _ _ => none) (Le_startIn_2b kr) zN
def Le_startIn {ρ : Type} (a0 a1 : Int) (h : zH) (kr : Int → zH → Option ρ) : Option ρ :=
Le_startIn_2 kr a0 a1 0 h
def Le_startQueued_65 {ρ : Type} (kr : Int → zH → Option ρ) (r20 : Int → Int → zH → Option ρ) (a0 a1 : Int) (h : zH) : Option ρ :=
r20 a0 (wr (a1 + 1)) h
def Le_startQueued_20b {ρ : Type} (kr : Int → zH → Option ρ) (r20 : Int → Int → zH → Option ρ) (a0 a1 : Int) (h : zH) : Option ρ :=
zob h 1 a0 fun p1 =>
if a1 < (zhD h 1 p1 3) then (zob h 1 a0 fun p2 =>
zob h 21 (zhD h 1 p2 1) fun p3 =>
zix (zhL h 21 p3) a1 fun j4 =>
zob h 9 (zhD h 21 p3 j4) fun p5 =>
if (zhD h 9 p5 4) < 0 then Le_startQueued_65 kr r20 a0 a1 h
else zob h 1 a0 fun p6 =>
zob h 21 (zhD h 1 p6 1) fun p7 =>
zix (zhL h 21 p7) a1 fun j8 =>
zob h 9 (zhD h 21 p7 j8) fun p9 =>
if (zhD h 9 p9 10) = 113 then (zob h 1 a0 fun p10 =>
zob h 21 (zhD h 1 p10 1) fun p11 =>
zix (zhL h 21 p11) a1 fun j12 =>
zob h 9 (zhD h 21 p11 j12) fun p13 =>
zlet (zset h 9 p13 10 114) fun h14 =>
Le_startQueued_65 kr r20 a0 a1 h14)
else Le_startQueued_65 kr r20 a0 a1 h)
else kr 0 h
def Le_startQueued_20 {ρ : Type} (kr : Int → zH → Option ρ) : Int → Int → zH → Option ρ := zit (fun _ _ _ => none) (Le_startQueued_20b kr) zN
def Le_startQueued_2b {ρ : Type} (kr : Int → zH → Option ρ) (r2 : Int → Int → zH → Option ρ) (a0 a1 : Int) (h : zH) : Option ρ :=
if a1 < 2 then (zob h 1 a0 fun _ =>
Le_startIn a0 a1 h  fun _ h2 =>
r2 a0 (wr (a1 + 1)) h2)
else Le_startQueued_20 kr a0 0 h
def Le_startQueued_2 {ρ : Type} (kr : Int → zH → Option ρ) : Int → Int → zH → Option ρ := zit (fun _ _ _ => none) (Le_startQueued_2b kr) zN
def Le_startQueued {ρ : Type} (a0 : Int) (h : zH) (kr : Int → zH → Option ρ) : Option ρ :=
Le_startQueued_2 kr a0 0 h
def Gr_canAct_21 {ρ : Type} (kr : Int → zH → Option ρ) (t0 : Int) (h : zH) : Option ρ :=
znar 1 t0 fun x1 => kr x1 h
def Gr_canAct_20 {ρ : Type} (kr : Int → zH → Option ρ) (h : zH) : Option ρ :=
Gr_canAct_21 kr 0 h
def Gr_canAct {ρ : Type} (a0 a1 : Int) (h : zH) (kr : Int → zH → Option ρ) : Option ρ :=
zob h 11 a0 fun _ =>
Gr_leastPlace a0 h  fun v1 h2 =>
if v1 = (-1) then Gr_canAct_20 kr h2
else zob h2 11 a0 fun p3 =>
if a1 < (zhD h2 11 p3 6) then Gr_canAct_20 kr h2
else Gr_canAct_21 kr 1 h2
def Un_indexOfLast_2b {ρ : Type} (kr : Int → zH → Option ρ) (r2 : Int → Int → zH → Option ρ) (a0 a1 : Int) (h : zH) : Option ρ :=
zob h 3 a0 fun p1 =>
if a1 < (zhD h 3 p1 2) then (zob h 3 a0 fun p2 =>
zob h 26 (zhD h 3 p2 0) fun p3 =>
zix (zhL h 26 p3) a1 fun j4 =>
zob h 3 a0 fun p5 =>
if (zhD h 26 p3 j4) = (zhD h 3 p5 3) then kr a1 h
else r2 a0 (wr (a1 + 1)) h)
else kr (-1) h
def Un_indexOfLast_2 {ρ : Type} (kr : Int → zH → Option ρ) : Int → Int → zH → Option ρ := zit (fun _ _ _ => none) (Un_indexOfLast_2b kr) zN
def Un_indexOfLast {ρ : Type} (a0 : Int) (h : zH) (kr : Int → zH → Option ρ) : Option ρ :=
Un_indexOfLast_2 kr a0 0 h
def Un_choose_56 {ρ : Type} (kr : Int → zH → Option ρ) (r20 : Int → Int → Int → Int → Int → zH → Option ρ) (a0 a1 a2 a3 a4 t0 : Int) (h : zH) : Option ρ :=
zob h 3 a0 fun p1 =>
zob h 26 (zhD h 3 p1 0) fun p2 =>
zix (zhL h 26 p2) t0 fun j3 =>
zob h 11 (zhD h 26 p2 j3) fun _ =>
Gr_canAct (zhD h 26 p2 j3) a2 h  fun v4 h5 =>
if v4 = 0 then r20 a0 a1 a2 a3 (wr (a4 + 1)) h5
else zob h5 3 a0 fun p6 =>
zob h5 26 (zhD h5 3 p6 0) fun p7 =>
zix (zhL h5 26 p7) t0 fun j8 =>
zob h5 3 a0 fun p9 =>
zlet (zset h5 3 p9 3 (zhD h5 26 p7 j8)) fun h10 =>
zob h10 3 a0 fun p11 =>
kr (zhD h10 3 p11 3) h10
def Un_choose_20b {ρ : Type} (kr : Int → zH → Option ρ) (r20 : Int → Int → Int → Int → Int → zH → Option ρ) (a0 a1 a2 a3 a4 : Int) (h : zH) : Option ρ :=
zob h 3 a0 fun p1 =>
if a4 < (zhD h 3 p1 2) then (if a1 = 121 then (zob h 3 a0 fun p3 =>
Un_choose_56 kr r20 a0 a1 a2 a3 a4 (wr ((wr ((zhD h 3 p3 2) - 1)) - a4)) h)
else zob h 3 a0 fun p2 =>
if zhD h 3 p2 2 = 0 then none else Un_choose_56 kr r20 a0 a1 a2 a3 a4 (Int.tmod (wr (a3 + a4)) (zhD h 3 p2 2)) h)
else kr (-1) h
def Un_choose_20 {ρ : Type} (kr : Int → zH → Option ρ) : Int → Int → Int → Int → Int → zH → Option ρ := zit (fun _ _ _ _ _ _ => none) (Un_choose_20b kr) zN
def Un_choose_16 {ρ : Type} (kr : Int → zH → Option ρ) (a0 a1 a2 t0 : Int) (h : zH) : Option ρ :=
Un_choose_20 kr a0 a1 a2 t0 0 h
def Un_choose {ρ : Type} (a0 a1 a2 : Int) (h : zH) (kr : Int → zH → Option ρ) : Option ρ :=
if a1 = 97 then (zob h 3 a0 fun _ =>
Un_indexOfLast a0 h  fun v1 h2 =>
Un_choose_16 kr a0 a1 a2 (wr (v1 + 1)) h2)
else Un_choose_16 kr a0 a1 a2 0 h
def Co_letCycleCome_66 {ρ : Type} (kr : Int → zH → Option ρ) (r17 : Int → Int → zH → Option ρ) (a0 a1 : Int) (h : zH) : Option ρ :=
r17 a0 (wr (a1 + 1)) h
def Co_letCycleCome_86 {ρ : Type} (kr : Int → zH → Option ρ) (a0 : Int) (h : zH) : Option ρ :=
zob h 2 a0 fun p1 =>
zob h 2 a0 fun p2 =>
zlet (zset h 2 p2 4 (wr ((zhD h 2 p1 4) + 1))) fun h3 =>
kr 0 h3
def Co_letCycleCome_17b {ρ : Type} (kr : Int → zH → Option ρ) (r17 : Int → Int → zH → Option ρ) (a0 a1 : Int) (h : zH) : Option ρ :=
if a1 < 2 then (zob h 2 a0 fun p4 =>
zob h 23 (zhD h 2 p4 2) fun p5 =>
zix (zhL h 23 p5) a1 fun j6 =>
zob h 2 a0 fun p7 =>
zob h 2 a0 fun p8 =>
zob h 3 (zhD h 23 p5 j6) fun _ =>
Un_choose (zhD h 23 p5 j6) (zhD h 2 p7 5) (zhD h 2 p8 4) h  fun v9 h10 =>
if v9 < 0 then Co_letCycleCome_66 kr r17 a0 a1 h10
else zob h10 2 a0 fun p11 =>
zob h10 23 (zhD h10 2 p11 2) fun p12 =>
zix (zhL h10 23 p12) a1 fun j13 =>
zob h10 2 a0 fun _ =>
Co_carryOut a0 (zhD h10 23 p12 j13) v9 h10  fun v14 h15 =>
if v14 = 0 then Co_letCycleCome_66 kr r17 a0 a1 h15
else zob h15 11 v9 fun p16 =>
zob h15 2 a0 fun _ =>
Co_settle a0 (zhD h15 11 p16 0) h15  fun _ h18 =>
Co_letCycleCome_66 kr r17 a0 a1 h18)
else zob h 2 a0 fun p1 =>
if (Int.tmod (zhD h 2 p1 4) 3) = 2 then (zob h 2 a0 fun _ =>
Co_writeFirstOfBuffers a0 h  fun _ h3 =>
Co_letCycleCome_86 kr a0 h3)
else Co_letCycleCome_86 kr a0 h
def Co_letCycleCome_17 {ρ : Type} (kr : Int → zH → Option ρ) : Int → Int → zH → Option ρ := zit (fun _ _ _ => none) (Co_letCycleCome_17b kr) zN
def Co_letCycleCome {ρ : Type} (a0 : Int) (h : zH) (kr : Int → zH → Option ρ) : Option ρ :=
zob h 2 a0 fun p1 =>
zob h 1 (zhD h 2 p1 0) fun _ =>
Le_startQueued (zhD h 2 p1 0) h  fun _ h3 =>
zob h3 2 a0 fun _ =>
Co_moveCopies a0 h3  fun _ h5 =>
zob h5 2 a0 fun _ =>
Co_giveBlocks a0 h5  fun _ h7 =>
Co_letCycleCome_17 kr a0 0 h7
def X_step_32b {ρ : Type} (kr : Int → zH → Option ρ) (kt : Nat → zH → Option ρ) (r32 : Int → Int → Int → Int → zH → Option ρ) (a0 a1 a2 a4 : Int) (h : zH) : Option ρ :=
if a4 < a1 then (zob h 0 a0 fun p4 =>
zob h 2 (zhD h 0 p4 1) fun _ =>
Co_letCycleCome (zhD h 0 p4 1) h  fun _ h6 =>
r32 a0 a1 a2 (wr (a4 + 1)) h6)
else zob h 0 a0 fun p1 =>
zob h 2 (zhD h 0 p1 1) fun p2 =>
zob h 4 (zhD h 2 p2 3) fun p3 =>
kr (wr (wrl ((zhD h 4 p3 0) - a2))) h
def X_step_32 {ρ : Type} (kr : Int → zH → Option ρ) (kt : Nat → zH → Option ρ) : Int → Int → Int → Int → zH → Option ρ := zit (fun _ _ _ _ _ => none) (X_step_32b kr kt) zN
def X_step {ρ : Type} (a0 a1 : Int) (h : zH) (kt : Nat → zH → Option ρ) (kr : Int → zH → Option ρ) : Option ρ :=
X_isWithin a1 1 100 h  fun v1 h2 =>
if v1 = 0 then zlet (zthrown h2) fun h6 => kt 1 h6
else zob h2 0 a0 fun p3 =>
zob h2 2 (zhD h2 0 p3 1) fun p4 =>
zob h2 4 (zhD h2 2 p4 3) fun p5 =>
X_step_32 kr kt a0 a1 (zhD h2 4 p5 0) 0 h2
def Le_isAllOver_2b {ρ : Type} (kr : Int → zH → Option ρ) (r2 : Int → Int → zH → Option ρ) (a0 a1 : Int) (h : zH) : Option ρ :=
zob h 1 a0 fun p1 =>
if a1 < (zhD h 1 p1 3) then (zob h 1 a0 fun p2 =>
zob h 21 (zhD h 1 p2 1) fun p3 =>
zix (zhL h 21 p3) a1 fun j4 =>
zob h 9 (zhD h 21 p3 j4) fun _ =>
La_isOver (zhD h 21 p3 j4) h  fun v5 h6 =>
if v5 = 0 then kr 0 h6
else r2 a0 (wr (a1 + 1)) h6)
else kr 1 h
def Le_isAllOver_2 {ρ : Type} (kr : Int → zH → Option ρ) : Int → Int → zH → Option ρ := zit (fun _ _ _ => none) (Le_isAllOver_2b kr) zN
def Le_isAllOver {ρ : Type} (a0 : Int) (h : zH) (kr : Int → zH → Option ρ) : Option ρ :=
Le_isAllOver_2 kr a0 0 h
def X_run_49 {ρ : Type} (kr : Int → zH → Option ρ) (kt : Nat → zH → Option ρ) (a2 : Int) (h : zH) : Option ρ :=
kr a2 h
def X_run_21b {ρ : Type} (kr : Int → zH → Option ρ) (kt : Nat → zH → Option ρ) (r21 : Int → Int → Int → zH → Option ρ) (a0 a1 a2 : Int) (h : zH) : Option ρ :=
if a2 < a1 then (zob h 0 a0 fun p1 =>
zob h 1 (zhD h 0 p1 0) fun _ =>
Le_isAllOver (zhD h 0 p1 0) h  fun v2 h3 =>
if v2 = 0 then (zob h3 0 a0 fun p4 =>
zob h3 2 (zhD h3 0 p4 1) fun _ =>
Co_letCycleCome (zhD h3 0 p4 1) h3  fun _ h6 =>
r21 a0 a1 (wr (a2 + 1)) h6)
else X_run_49 kr kt a2 h3)
else X_run_49 kr kt a2 h
def X_run_21 {ρ : Type} (kr : Int → zH → Option ρ) (kt : Nat → zH → Option ρ) : Int → Int → Int → zH → Option ρ := zit (fun _ _ _ _ => none) (X_run_21b kr kt) zN
def X_run {ρ : Type} (a0 a1 : Int) (h : zH) (kt : Nat → zH → Option ρ) (kr : Int → zH → Option ρ) : Option ρ :=
X_isWithin a1 1 500 h  fun v1 h2 =>
if v1 = 0 then zlet (zthrown h2) fun h3 => kt 1 h3
else X_run_21 kr kt a0 a1 0 h2
def X_setOrder_26 {ρ : Type} (kr : Int → zH → Option ρ) (kt : Nat → zH → Option ρ) (a0 a1 : Int) (h : zH) : Option ρ :=
zob h 0 a0 fun p1 =>
zob h 2 (zhD h 0 p1 1) fun p2 =>
zob h 0 a0 fun p3 =>
zob h 2 (zhD h 0 p3 1) fun p4 =>
znar 2 a1 fun x5 =>
zlet (zset h 2 p4 5 x5) fun h6 =>
znar 2 (zhD h 2 p2 5) fun x7 => kr x7 h6
def X_setOrder {ρ : Type} (a0 a1 : Int) (h : zH) (kt : Nat → zH → Option ρ) (kr : Int → zH → Option ρ) : Option ρ :=
if a1 = 111 then X_setOrder_26 kr kt a0 a1 h
else if a1 = 121 then X_setOrder_26 kr kt a0 a1 h
else if a1 = 97 then X_setOrder_26 kr kt a0 a1 h
else zlet (zthrown h) fun h1 => kt 1 h1
def X_cycle {ρ : Type} (a0 : Int) (h : zH) (kr : Int → zH → Option ρ) : Option ρ :=
zob h 0 a0 fun p1 =>
zob h 2 (zhD h 0 p1 1) fun p2 =>
kr (zhD h 2 p2 4) h
def X_unitAt {ρ : Type} (a0 a1 : Int) (h : zH) (kt : Nat → zH → Option ρ) (kr : Int → zH → Option ρ) : Option ρ :=
X_isWithin a1 0 1 h  fun v1 h2 =>
if v1 = 0 then zlet (zthrown h2) fun h7 => kt 3 h7
else zob h2 0 a0 fun p3 =>
zob h2 2 (zhD h2 0 p3 1) fun p4 =>
zob h2 23 (zhD h2 2 p4 2) fun p5 =>
zix (zhL h2 23 p5) a1 fun j6 =>
kr (zhD h2 23 p5 j6) h2
def X_groups {ρ : Type} (a0 a1 : Int) (h : zH) (kt : Nat → zH → Option ρ) (kr : Int → zH → Option ρ) : Option ρ :=
zob h 0 a0 fun _ =>
X_unitAt a0 a1 h kt fun v1 h2 =>
zob h2 3 v1 fun p3 =>
kr (zhD h2 3 p3 2) h2
def Un_groupOf_24 {ρ : Type} (kr : Int → zH → Option ρ) (t0 : Int) (h : zH) : Option ρ :=
kr t0 h
def Un_groupOf {ρ : Type} (a0 a1 : Int) (h : zH) (kr : Int → zH → Option ρ) : Option ρ :=
zob h 3 a0 fun p1 =>
X_isWithin a1 0 (wr ((zhD h 3 p1 2) - 1)) h  fun v2 h3 =>
if v2 = 0 then Un_groupOf_24 kr (-1) h3
else zob h3 3 a0 fun p4 =>
zob h3 26 (zhD h3 3 p4 0) fun p5 =>
zix (zhL h3 26 p5) a1 fun j6 =>
Un_groupOf_24 kr (zhD h3 26 p5 j6) h3
def X_groupAt {ρ : Type} (a0 a1 a2 : Int) (h : zH) (kt : Nat → zH → Option ρ) (kr : Int → zH → Option ρ) : Option ρ :=
zob h 0 a0 fun _ =>
X_unitAt a0 a1 h kt fun v1 h2 =>
zob h2 3 v1 fun _ =>
Un_groupOf v1 a2 h2  fun v3 h4 =>
if v3 < 0 then zlet (zthrown h4) fun h5 => kt 3 h5
else kr v3 h4
def X_threadAt {ρ : Type} (a0 a1 a2 : Int) (h : zH) (kt : Nat → zH → Option ρ) (kr : Int → zH → Option ρ) : Option ρ :=
zob h 0 a0 fun _ =>
X_groupAt a0 a1 a2 h kt fun v1 h2 =>
zob h2 11 v1 fun p3 =>
zob h2 10 (zhD h2 11 p3 0) fun p4 =>
zob h2 9 (zhD h2 10 p4 0) fun p5 =>
zob h2 11 v1 fun p6 =>
zob h2 10 (zhD h2 11 p6 0) fun p7 =>
zob h2 11 v1 fun p8 =>
kr (wr ((wr ((wr (1000 * (zhD h2 9 p5 0))) + (wr (100 * (zhD h2 10 p7 1))))) + (zhD h2 11 p8 1))) h2
def X_place {ρ : Type} (a0 a1 a2 : Int) (h : zH) (kt : Nat → zH → Option ρ) (kr : Int → zH → Option ρ) : Option ρ :=
zob h 0 a0 fun _ =>
X_groupAt a0 a1 a2 h kt fun v1 h2 =>
zob h2 11 v1 fun _ =>
Gr_leastPlace v1 h2  fun v3 h4 =>
if v3 = (-1) then zlet (zthrown h4) fun h5 => kt 5 h5
else kr v3 h4
def X_mask {ρ : Type} (a0 a1 a2 : Int) (h : zH) (kt : Nat → zH → Option ρ) (kr : Int → zH → Option ρ) : Option ρ :=
zob h 0 a0 fun _ =>
X_groupAt a0 a1 a2 h kt fun v1 h2 =>
zob h2 11 v1 fun _ =>
Gr_lanesUnderMask v1 h2  fun v3 h4 =>
kr v3 h4
def Gr_isPlaceOfLower_2b {ρ : Type} (kr : Int → zH → Option ρ) (r2 : Int → Int → Int → zH → Option ρ) (a0 a1 a2 : Int) (h : zH) : Option ρ :=
if a2 < a1 then (zob h 11 a0 fun _ =>
Gr_placeIn a0 a2 h  fun v1 h2 =>
zob h2 11 a0 fun _ =>
Gr_placeIn a0 a1 h2  fun v3 h4 =>
if v1 = v3 then kr 1 h4
else r2 a0 a1 (wr (a2 + 1)) h4)
else kr 0 h
def Gr_isPlaceOfLower_2 {ρ : Type} (kr : Int → zH → Option ρ) : Int → Int → Int → zH → Option ρ := zit (fun _ _ _ _ => none) (Gr_isPlaceOfLower_2b kr) zN
def Gr_isPlaceOfLower {ρ : Type} (a0 a1 : Int) (h : zH) (kr : Int → zH → Option ρ) : Option ρ :=
Gr_isPlaceOfLower_2 kr a0 a1 0 h
def Gr_differentPlaces_29 {ρ : Type} (kr : Int → zH → Option ρ) (r4 : Int → Int → Int → zH → Option ρ) (a0 a1 a2 : Int) (h : zH) : Option ρ :=
r4 a0 a1 (wr (a2 + 1)) h
def Gr_differentPlaces_4b {ρ : Type} (kr : Int → zH → Option ρ) (r4 : Int → Int → Int → zH → Option ρ) (a0 a1 a2 : Int) (h : zH) : Option ρ :=
if a2 < 4 then (zob h 11 a0 fun _ =>
Gr_placeIn a0 a2 h  fun v1 h2 =>
if v1 = (-1) then Gr_differentPlaces_29 kr r4 a0 a1 a2 h2
else zob h2 11 a0 fun _ =>
Gr_isPlaceOfLower a0 a2 h2  fun v3 h4 =>
if v3 = 0 then Gr_differentPlaces_29 kr r4 a0 (wr (a1 + 1)) a2 h4
else Gr_differentPlaces_29 kr r4 a0 a1 a2 h4)
else kr a1 h
def Gr_differentPlaces_4 {ρ : Type} (kr : Int → zH → Option ρ) : Int → Int → Int → zH → Option ρ := zit (fun _ _ _ _ => none) (Gr_differentPlaces_4b kr) zN
def Gr_differentPlaces {ρ : Type} (a0 : Int) (h : zH) (kr : Int → zH → Option ρ) : Option ρ :=
Gr_differentPlaces_4 kr a0 0 0 h
def X_places {ρ : Type} (a0 a1 a2 : Int) (h : zH) (kt : Nat → zH → Option ρ) (kr : Int → zH → Option ρ) : Option ρ :=
zob h 0 a0 fun _ =>
X_groupAt a0 a1 a2 h kt fun v1 h2 =>
zob h2 11 v1 fun _ =>
Gr_differentPlaces v1 h2  fun v3 h4 =>
kr v3 h4
def Gr_whyIdle_22 {ρ : Type} (kr : Int → zH → Option ρ) (t0 : Int) (h : zH) : Option ρ :=
znar 2 t0 fun x1 => kr x1 h
def Gr_whyIdle_38 {ρ : Type} (kr : Int → zH → Option ρ) (t0 : Int) (h : zH) : Option ρ :=
znar 2 t0 fun x1 => kr x1 h
def Gr_whyIdle {ρ : Type} (a0 a1 : Int) (h : zH) (kr : Int → zH → Option ρ) : Option ρ :=
zob h 11 a0 fun _ =>
Gr_leastPlace a0 h  fun v1 h2 =>
if v1 = (-1) then (zob h2 11 a0 fun _ =>
Gr_hasEnded a0 h2  fun v4 h5 =>
if v4 = 0 then Gr_whyIdle_22 kr 98 h5
else Gr_whyIdle_22 kr 101 h5)
else zob h2 11 a0 fun p3 =>
if a1 < (zhD h2 11 p3 6) then Gr_whyIdle_38 kr 100 h2
else Gr_whyIdle_38 kr 45 h2
def X_reason {ρ : Type} (a0 a1 a2 : Int) (h : zH) (kt : Nat → zH → Option ρ) (kr : Int → zH → Option ρ) : Option ρ :=
zob h 0 a0 fun _ =>
X_groupAt a0 a1 a2 h kt fun v1 h2 =>
zob h2 0 a0 fun p3 =>
zob h2 2 (zhD h2 0 p3 1) fun p4 =>
zob h2 11 v1 fun _ =>
Gr_whyIdle v1 (zhD h2 2 p4 4) h2  fun v5 h6 =>
znar 2 v5 fun x7 => kr x7 h6
def X_register_40 {ρ : Type} (kr : Int → zH → Option ρ) (kt : Nat → zH → Option ρ) (h : zH) : Option ρ :=
zlet (zthrown h) fun h1 => kt 3 h1
def X_register {ρ : Type} (a0 a1 a2 a3 a4 : Int) (h : zH) (kt : Nat → zH → Option ρ) (kr : Int → zH → Option ρ) : Option ρ :=
zob h 0 a0 fun _ =>
X_groupAt a0 a1 a2 h kt fun v1 h2 =>
zob h2 11 v1 fun _ =>
Gr_threadIn v1 a3 h2  fun v3 h4 =>
if v3 < 0 then X_register_40 kr kt h4
else zob h4 11 v1 fun p5 =>
zob h4 10 (zhD h4 11 p5 0) fun p6 =>
zob h4 9 (zhD h4 10 p6 0) fun p7 =>
zob h4 7 (zhD h4 9 p7 5) fun _ =>
Ke_hasRegister (zhD h4 9 p7 5) a4 h4  fun v8 h9 =>
if v8 = 0 then X_register_40 kr kt h9
else zob h9 6 v3 fun _ =>
Th_at v3 a4 h9  fun v10 h11 =>
kr v10 h11
