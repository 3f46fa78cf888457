def It_bitCount {ρ : Type} (a0 : Int) (h : zH) (kr : Int → zH → Option ρ) : Option ρ :=
kr (zand (wr ((wr ((zand (wr ((wr ((zand (wr (a0 - (zand (zushr a0 1) 1431655765))) 858993459) + (zand (zushr (wr (a0 - (zand (zushr a0 1) 1431655765))) 2) 858993459))) + (zushr (wr ((zand (wr (a0 - (zand (zushr a0 1) 1431655765))) 858993459) + (zand (zushr (wr (a0 - (zand (zushr a0 1) 1431655765))) 2) 858993459))) 4))) 252645135) + (zushr (zand (wr ((wr ((zand (wr (a0 - (zand (zushr a0 1) 1431655765))) 858993459) + (zand (zushr (wr (a0 - (zand (zushr a0 1) 1431655765))) 2) 858993459))) + (zushr (wr ((zand (wr (a0 - (zand (zushr a0 1) 1431655765))) 858993459) + (zand (zushr (wr (a0 - (zand (zushr a0 1) 1431655765))) 2) 858993459))) 4))) 252645135) 8))) + (zushr (wr ((zand (wr ((wr ((zand (wr (a0 - (zand (zushr a0 1) 1431655765))) 858993459) + (zand (zushr (wr (a0 - (zand (zushr a0 1) 1431655765))) 2) 858993459))) + (zushr (wr ((zand (wr (a0 - (zand (zushr a0 1) 1431655765))) 858993459) + (zand (zushr (wr (a0 - (zand (zushr a0 1) 1431655765))) 2) 858993459))) 4))) 252645135) + (zushr (zand (wr ((wr ((zand (wr (a0 - (zand (zushr a0 1) 1431655765))) 858993459) + (zand (zushr (wr (a0 - (zand (zushr a0 1) 1431655765))) 2) 858993459))) + (zushr (wr ((zand (wr (a0 - (zand (zushr a0 1) 1431655765))) 858993459) + (zand (zushr (wr (a0 - (zand (zushr a0 1) 1431655765))) 2) 858993459))) 4))) 252645135) 8))) 16))) 63) h
def Ma_floorMod_18 {ρ : Type} (kr : Int → zH → Option ρ) (a2 : Int) (h : zH) : Option ρ :=
kr a2 h
def Ma_floorMod {ρ : Type} (a0 a1 : Int) (h : zH) (kr : Int → zH → Option ρ) : Option ρ :=
if a1 = 0 then none else if (zxor a0 a1) < 0 then (if (Int.tmod a0 a1) = 0 then Ma_floorMod_18 kr (Int.tmod a0 a1) h
else kr (wr ((Int.tmod a0 a1) + a1)) h)
else Ma_floorMod_18 kr (Int.tmod a0 a1) h
def Ma_max_10 {ρ : Type} (kr : Int → zH → Option ρ) (t0 : Int) (h : zH) : Option ρ :=
kr t0 h
def Ma_max {ρ : Type} (a0 a1 : Int) (h : zH) (kr : Int → zH → Option ρ) : Option ρ :=
if a0 < a1 then Ma_max_10 kr a1 h
else Ma_max_10 kr a0 h
def Ma_min_10 {ρ : Type} (kr : Int → zH → Option ρ) (t0 : Int) (h : zH) : Option ρ :=
kr t0 h
def Ma_min {ρ : Type} (a0 a1 : Int) (h : zH) (kr : Int → zH → Option ρ) : Option ρ :=
if a1 < a0 then Ma_min_10 kr a1 h
else Ma_min_10 kr a0 h
def Ar_fill_29_5b {ρ : Type} (kr : Int → zH → Option ρ) (r5 : Int → Int → Int → Int → zH → Option ρ) (a0 a1 a2 a3 : Int) (h : zH) : Option ρ :=
if a2 < a3 then (zob h 29 a0 fun p1 =>
zix (zhL h 29 p1) a2 fun j2 =>
zlet (zset h 29 p1 j2 a1) fun h3 =>
r5 a0 a1 (wr (a2 + 1)) a3 h3)
else kr 0 h
def Ar_fill_29_5 {ρ : Type} (kr : Int → zH → Option ρ) : Int → Int → Int → Int → zH → Option ρ := zit (fun _ _ _ _ _ => none) (Ar_fill_29_5b kr) zN
def Ar_fill_29 {ρ : Type} (a0 a1 : Int) (h : zH) (kr : Int → zH → Option ρ) : Option ρ :=
zob h 29 a0 fun p1 =>
Ar_fill_29_5 kr a0 a1 0 (zhL h 29 p1 : Int) h
def Ar_fill_31_5b {ρ : Type} (kr : Int → zH → Option ρ) (r5 : Int → Int → Int → Int → zH → Option ρ) (a0 a1 a2 a3 : Int) (h : zH) : Option ρ :=
if a2 < a3 then (zob h 31 a0 fun p1 =>
zix (zhL h 31 p1) a2 fun j2 =>
zlet (zset h 31 p1 j2 a1) fun h3 =>
r5 a0 a1 (wr (a2 + 1)) a3 h3)
else kr 0 h
def Ar_fill_31_5 {ρ : Type} (kr : Int → zH → Option ρ) : Int → Int → Int → Int → zH → Option ρ := zit (fun _ _ _ _ _ => none) (Ar_fill_31_5b kr) zN
def Ar_fill_31 {ρ : Type} (a0 a1 : Int) (h : zH) (kr : Int → zH → Option ρ) : Option ρ :=
zob h 31 a0 fun p1 =>
Ar_fill_31_5 kr a0 a1 0 (zhL h 31 p1 : Int) h
def Ar_fill_32_5b {ρ : Type} (kr : Int → zH → Option ρ) (r5 : Int → Int → Int → Int → zH → Option ρ) (a0 a1 a2 a3 : Int) (h : zH) : Option ρ :=
if a2 < a3 then (zob h 32 a0 fun p1 =>
zix (zhL h 32 p1) a2 fun j2 =>
zlet (zset h 32 p1 j2 a1) fun h3 =>
r5 a0 a1 (wr (a2 + 1)) a3 h3)
else kr 0 h
def Ar_fill_32_5 {ρ : Type} (kr : Int → zH → Option ρ) : Int → Int → Int → Int → zH → Option ρ := zit (fun _ _ _ _ _ => none) (Ar_fill_32_5b kr) zN
def Ar_fill_32 {ρ : Type} (a0 a1 : Int) (h : zH) (kr : Int → zH → Option ρ) : Option ρ :=
zob h 32 a0 fun p1 =>
Ar_fill_32_5 kr a0 a1 0 (zhL h 32 p1 : Int) h
def Ar_fill_39_5b {ρ : Type} (kr : Int → zH → Option ρ) (r5 : Int → Int → Int → Int → zH → Option ρ) (a0 a1 a2 a3 : Int) (h : zH) : Option ρ :=
if a2 < a3 then (zob h 39 a0 fun p1 =>
zix (zhL h 39 p1) a2 fun j2 =>
zlet (zset h 39 p1 j2 a1) fun h3 =>
r5 a0 a1 (wr (a2 + 1)) a3 h3)
else kr 0 h
def Ar_fill_39_5 {ρ : Type} (kr : Int → zH → Option ρ) : Int → Int → Int → Int → zH → Option ρ := zit (fun _ _ _ _ _ => none) (Ar_fill_39_5b kr) zN
def Ar_fill_39 {ρ : Type} (a0 a1 : Int) (h : zH) (kr : Int → zH → Option ρ) : Option ρ :=
zob h 39 a0 fun p1 =>
Ar_fill_39_5 kr a0 a1 0 (zhL h 39 p1 : Int) h
def Ar_fill_40_5b {ρ : Type} (kr : Int → zH → Option ρ) (r5 : Int → Int → Int → Int → zH → Option ρ) (a0 a1 a2 a3 : Int) (h : zH) : Option ρ :=
if a2 < a3 then (zob h 40 a0 fun p1 =>
zix (zhL h 40 p1) a2 fun j2 =>
zlet (zset h 40 p1 j2 a1) fun h3 =>
r5 a0 a1 (wr (a2 + 1)) a3 h3)
else kr 0 h
def Ar_fill_40_5 {ρ : Type} (kr : Int → zH → Option ρ) : Int → Int → Int → Int → zH → Option ρ := zit (fun _ _ _ _ _ => none) (Ar_fill_40_5b kr) zN
def Ar_fill_40 {ρ : Type} (a0 a1 : Int) (h : zH) (kr : Int → zH → Option ρ) : Option ρ :=
zob h 40 a0 fun p1 =>
Ar_fill_40_5 kr a0 a1 0 (zhL h 40 p1 : Int) h
def Fi_init {ρ : Type} (a0 : Int) (h : zH) (kr : Int → zH → Option ρ) : Option ρ :=
zob h 4 a0 fun _ =>
kr 0 h
def Un_init {ρ : Type} (a0 : Int) (h : zH) (kr : Int → zH → Option ρ) : Option ρ :=
zob h 3 a0 fun _ =>
zix 100000 4 fun n2 =>
zlet (znew h 26 n2 n2 (fun _ => -1)) fun h3 =>
zob h3 3 a0 fun p4 =>
zlet (zset h3 3 p4 0 (zhN h 26 : Int)) fun h5 =>
zix 100000 2 fun n6 =>
zlet (znew h5 27 n6 n6 (fun _ => 0)) fun h7 =>
zob h7 27 (zhN h5 27 : Int) fun p8 =>
zix (zhL h7 27 p8) 0 fun j9 =>
zlet (zset h7 27 p8 j9 (-1)) fun h10 =>
zob h10 27 (zhN h5 27 : Int) fun p11 =>
zix (zhL h10 27 p11) 1 fun j12 =>
zlet (zset h10 27 p11 j12 (-1)) fun h13 =>
zob h13 3 a0 fun p14 =>
zlet (zset h13 3 p14 1 (zhN h5 27 : Int)) fun h15 =>
kr 0 h15
def Co_init {ρ : Type} (a0 a1 : Int) (h : zH) (kr : Int → zH → Option ρ) : Option ρ :=
zob h 2 a0 fun _ =>
zix 100000 64 fun n2 =>
zlet (znew h 22 n2 n2 (fun _ => 0)) fun h3 =>
zob h3 2 a0 fun p4 =>
zlet (zset h3 2 p4 1 (zhN h 22 : Int)) fun h5 =>
zix 100000 2 fun n6 =>
zlet (znew h5 23 n6 n6 (fun _ => -1)) fun h7 =>
zlet (znew h7 3 0 (znf zPP 3) (fun k => zdef (zft zPP 3 k))) fun h8 =>
zob h8 3 (zhN h7 3 : Int) fun _ =>
Un_init (zhN h7 3 : Int) h8  fun _ h10 =>
zob h10 23 (zhN h5 23 : Int) fun p11 =>
zix (zhL h10 23 p11) 0 fun j12 =>
zorn h10 3 (zhN h7 3 : Int) (zlet (zset h10 23 p11 j12 (zhN h7 3 : Int)) fun h13 =>
zlet (znew h13 3 0 (znf zPP 3) (fun k => zdef (zft zPP 3 k))) fun h14 =>
zob h14 3 (zhN h13 3 : Int) fun _ =>
Un_init (zhN h13 3 : Int) h14  fun _ h16 =>
zob h16 23 (zhN h5 23 : Int) fun p17 =>
zix (zhL h16 23 p17) 1 fun j18 =>
zorn h16 3 (zhN h13 3 : Int) (zlet (zset h16 23 p17 j18 (zhN h13 3 : Int)) fun h19 =>
zob h19 2 a0 fun p20 =>
zlet (zset h19 2 p20 2 (zhN h5 23 : Int)) fun h21 =>
zlet (znew h21 4 0 (znf zPP 4) (fun k => zdef (zft zPP 4 k))) fun h22 =>
zob h22 4 (zhN h21 4 : Int) fun _ =>
Fi_init (zhN h21 4 : Int) h22  fun _ h24 =>
zob h24 2 a0 fun p25 =>
zlet (zset h24 2 p25 3 (zhN h21 4 : Int)) fun h26 =>
zob h26 2 a0 fun p27 =>
zlet (zset h26 2 p27 5 111) fun h28 =>
zix 100000 4 fun n29 =>
zlet (znew h28 24 n29 n29 (fun _ => 0)) fun h30 =>
zob h30 2 a0 fun p31 =>
zlet (zset h30 2 p31 6 (zhN h28 24 : Int)) fun h32 =>
zix 100000 4 fun n33 =>
zlet (znew h32 25 n33 n33 (fun _ => 0)) fun h34 =>
zob h34 2 a0 fun p35 =>
zlet (zset h34 2 p35 7 (zhN h32 25 : Int)) fun h36 =>
zob h36 2 a0 fun p37 =>
zlet (zset h36 2 p37 0 a1) fun h38 =>
kr 0 h38))
def Le_init {ρ : Type} (a0 : Int) (h : zH) (kr : Int → zH → Option ρ) : Option ρ :=
zob h 1 a0 fun _ =>
zix 100000 4 fun n2 =>
zlet (znew h 20 n2 n2 (fun _ => -1)) fun h3 =>
zob h3 1 a0 fun p4 =>
zlet (zset h3 1 p4 0 (zhN h 20 : Int)) fun h5 =>
zix 100000 12 fun n6 =>
zlet (znew h5 21 n6 n6 (fun _ => -1)) fun h7 =>
zob h7 1 a0 fun p8 =>
zlet (zset h7 1 p8 1 (zhN h5 21 : Int)) fun h9 =>
kr 0 h9
def Th_init {ρ : Type} (a0 a1 a2 : Int) (h : zH) (kr : Int → zH → Option ρ) : Option ρ :=
zob h 6 a0 fun _ =>
zob h 6 a0 fun p2 =>
zlet (zset h 6 p2 0 a1) fun h3 =>
Ma_max a2 0 h3  fun v4 h5 =>
zix 100000 v4 fun n6 =>
zlet (znew h5 32 n6 n6 (fun _ => 0)) fun h7 =>
zob h7 6 a0 fun p8 =>
zlet (zset h7 6 p8 1 (zhN h5 32 : Int)) fun h9 =>
kr 0 h9
def Re_init_39b {ρ : Type} (kr : Int → zH → Option ρ) (r39 : Int → Int → zH → Option ρ) (a0 a1 : Int) (h : zH) : Option ρ :=
zob h 5 a0 fun p1 =>
zob h 30 (zhD h 5 p1 2) fun p2 =>
if a1 < (zhL h 30 p2 : Int) then (zob h 5 a0 fun p3 =>
zlet (znew h 6 0 (znf zPP 6) (fun k => zdef (zft zPP 6 k))) fun h4 =>
zob h4 6 (zhN h 6 : Int) fun _ =>
Th_init (zhN h 6 : Int) a1 8 h4  fun _ h6 =>
zob h6 30 (zhD h 5 p3 2) fun p7 =>
zix (zhL h6 30 p7) a1 fun j8 =>
zorn h6 6 (zhN h 6 : Int) (zlet (zset h6 30 p7 j8 (zhN h 6 : Int)) fun h9 =>
r39 a0 (wr (a1 + 1)) h9))
else kr 0 h
def Re_init_39 {ρ : Type} (kr : Int → zH → Option ρ) : Int → Int → zH → Option ρ := zit (fun _ _ _ => none) (Re_init_39b kr) zN
def Re_init {ρ : Type} (a0 : Int) (h : zH) (kr : Int → zH → Option ρ) : Option ρ :=
zob h 5 a0 fun _ =>
zix 100000 64 fun n2 =>
zlet (znew h 28 n2 n2 (fun _ => 0)) fun h3 =>
zob h3 5 a0 fun p4 =>
zlet (zset h3 5 p4 0 (zhN h 28 : Int)) fun h5 =>
zix 100000 16 fun n6 =>
zlet (znew h5 29 n6 n6 (fun _ => 0)) fun h7 =>
zob h7 5 a0 fun p8 =>
zlet (zset h7 5 p8 1 (zhN h5 29 : Int)) fun h9 =>
zix 100000 16 fun n10 =>
zlet (znew h9 30 n10 n10 (fun _ => -1)) fun h11 =>
zob h11 5 a0 fun p12 =>
zlet (zset h11 5 p12 2 (zhN h9 30 : Int)) fun h13 =>
zix 100000 16 fun n14 =>
zlet (znew h13 31 n14 n14 (fun _ => 0)) fun h15 =>
zob h15 5 a0 fun p16 =>
zlet (zset h15 5 p16 3 (zhN h13 31 : Int)) fun h17 =>
Re_init_39 kr a0 0 h17
def X_init {ρ : Type} (a0 : Int) (h : zH) (kr : Int → zH → Option ρ) : Option ρ :=
zob h 0 a0 fun _ =>
zlet (znew h 1 0 (znf zPP 1) (fun k => zdef (zft zPP 1 k))) fun h2 =>
zob h2 1 (zhN h 1 : Int) fun _ =>
Le_init (zhN h 1 : Int) h2  fun _ h4 =>
zob h4 0 a0 fun p5 =>
zlet (zset h4 0 p5 0 (zhN h 1 : Int)) fun h6 =>
zlet (znew h6 2 0 (znf zPP 2) (fun k => zdef (zft zPP 2 k))) fun h7 =>
zob h7 0 a0 fun p8 =>
zob h7 2 (zhN h6 2 : Int) fun _ =>
Co_init (zhN h6 2 : Int) (zhD h7 0 p8 0) h7  fun _ h10 =>
zob h10 0 a0 fun p11 =>
zlet (zset h10 0 p11 1 (zhN h6 2 : Int)) fun h12 =>
zlet (znew h12 5 0 (znf zPP 5) (fun k => zdef (zft zPP 5 k))) fun h13 =>
zob h13 5 (zhN h12 5 : Int) fun _ =>
Re_init (zhN h12 5 : Int) h13  fun _ h15 =>
zob h15 0 a0 fun p16 =>
zlet (zset h15 0 p16 2 (zhN h12 5 : Int)) fun h17 =>
kr 0 h17
def X_isWithin_15 {ρ : Type} (kr : Int → zH → Option ρ) (t0 : Int) (h : zH) : Option ρ :=
znar 1 t0 fun x1 => kr x1 h
def X_isWithin_14 {ρ : Type} (kr : Int → zH → Option ρ) (h : zH) : Option ρ :=
X_isWithin_15 kr 0 h
def X_isWithin {ρ : Type} (a0 a1 a2 : Int) (h : zH) (kr : Int → zH → Option ρ) : Option ρ :=
if a0 < a1 then X_isWithin_14 kr h
else if a2 < a0 then X_isWithin_14 kr h
else X_isWithin_15 kr 1 h
def Ke_init {ρ : Type} (a0 a1 a2 : Int) (h : zH) (kr : Int → zH → Option ρ) : Option ρ :=
zob h 7 a0 fun _ =>
zix 100000 40 fun n2 =>
zlet (znew h 33 n2 n2 (fun _ => -1)) fun h3 =>
zob h3 7 a0 fun p4 =>
zlet (zset h3 7 p4 2 (zhN h 33 : Int)) fun h5 =>
zob h5 7 a0 fun p6 =>
zlet (zset h5 7 p6 0 a1) fun h7 =>
zob h7 7 a0 fun p8 =>
zlet (zset h7 7 p8 1 a2) fun h9 =>
kr 0 h9
def Le_enterKernel_32 {ρ : Type} (kr : Int → zH → Option ρ) (a0 : Int) (h : zH) : Option ρ :=
zob h 1 a0 fun p1 =>
kr (wr ((zhD h 1 p1 2) - 1)) h
def Le_enterKernel {ρ : Type} (a0 a1 : Int) (h : zH) (kr : Int → zH → Option ρ) : Option ρ :=
zob h 1 a0 fun p1 =>
zob h 1 a0 fun p2 =>
zob h 20 (zhD h 1 p2 0) fun p3 =>
if (zhD h 1 p1 2) < (zhL h 20 p3 : Int) then (zob h 1 a0 fun p4 =>
zob h 1 a0 fun p5 =>
zob h 20 (zhD h 1 p4 0) fun p6 =>
zix (zhL h 20 p6) (zhD h 1 p5 2) fun j7 =>
zorn h 7 a1 (zlet (zset h 20 p6 j7 a1) fun h8 =>
zob h8 1 a0 fun p9 =>
zob h8 1 a0 fun p10 =>
zlet (zset h8 1 p10 2 (wr ((zhD h8 1 p9 2) + 1))) fun h11 =>
Le_enterKernel_32 kr a0 h11))
else Le_enterKernel_32 kr a0 h
def X_addKernel_20 {ρ : Type} (kr : Int → zH → Option ρ) (kt : Nat → zH → Option ρ) (h : zH) : Option ρ :=
zlet (zthrown h) fun h1 => kt 1 h1
def X_addKernel {ρ : Type} (a0 a1 a2 : Int) (h : zH) (kt : Nat → zH → Option ρ) (kr : Int → zH → Option ρ) : Option ρ :=
X_isWithin a1 1 8 h  fun v1 h2 =>
if v1 = 0 then X_addKernel_20 kr kt h2
else X_isWithin a2 0 16 h2  fun v3 h4 =>
if v3 = 0 then X_addKernel_20 kr kt h4
else zob h4 0 a0 fun p5 =>
zob h4 1 (zhD h4 0 p5 0) fun p6 =>
if (zhD h4 1 p6 2) < 4 then (zob h4 0 a0 fun p7 =>
zlet (znew h4 7 0 (znf zPP 7) (fun k => zdef (zft zPP 7 k))) fun h8 =>
zob h8 7 (zhN h4 7 : Int) fun _ =>
Ke_init (zhN h4 7 : Int) a1 a2 h8  fun _ h10 =>
zob h10 1 (zhD h4 0 p7 0) fun _ =>
Le_enterKernel (zhD h4 0 p7 0) (zhN h4 7 : Int) h10  fun v11 h12 =>
kr v11 h12)
else zlet (zthrown h4) fun h13 => kt 2 h13
def Le_kernelOf_24 {ρ : Type} (kr : Int → zH → Option ρ) (t0 : Int) (h : zH) : Option ρ :=
kr t0 h
def Le_kernelOf {ρ : Type} (a0 a1 : Int) (h : zH) (kr : Int → zH → Option ρ) : Option ρ :=
zob h 1 a0 fun p1 =>
X_isWithin a1 0 (wr ((zhD h 1 p1 2) - 1)) h  fun v2 h3 =>
if v2 = 0 then Le_kernelOf_24 kr (-1) h3
else zob h3 1 a0 fun p4 =>
zob h3 20 (zhD h3 1 p4 0) fun p5 =>
zix (zhL h3 20 p5) a1 fun j6 =>
Le_kernelOf_24 kr (zhD h3 20 p5 j6) h3
def X_kernelAt {ρ : Type} (a0 a1 : Int) (h : zH) (kt : Nat → zH → Option ρ) (kr : Int → zH → Option ρ) : Option ρ :=
zob h 0 a0 fun p1 =>
zob h 1 (zhD h 0 p1 0) fun _ =>
Le_kernelOf (zhD h 0 p1 0) a1 h  fun v2 h3 =>
if v2 < 0 then zlet (zthrown h3) fun h4 => kt 3 h4
else kr v2 h3
def In_init {ρ : Type} (a0 a1 a2 a3 a4 : Int) (h : zH) (kr : Int → zH → Option ρ) : Option ρ :=
zob h 8 a0 fun _ =>
zob h 8 a0 fun p2 =>
znar 2 a1 fun x3 =>
zlet (zset h 8 p2 0 x3) fun h4 =>
zob h4 8 a0 fun p5 =>
zlet (zset h4 8 p5 1 a2) fun h6 =>
zob h6 8 a0 fun p7 =>
zlet (zset h6 8 p7 2 a3) fun h8 =>
zob h8 8 a0 fun p9 =>
zlet (zset h8 8 p9 3 a4) fun h10 =>
kr 0 h10
def In_isOneOf_16 {ρ : Type} (kr : Int → zH → Option ρ) (t0 : Int) (h : zH) : Option ρ :=
znar 1 t0 fun x1 => kr x1 h
def In_isOneOf {ρ : Type} (a0 a1 : Int) (h : zH) (kr : Int → zH → Option ρ) : Option ρ :=
zob h 8 a0 fun p1 =>
zstix a1 (zhD h 8 p1 0) fun v2 =>
if v2 < 0 then In_isOneOf_16 kr 0 h
else In_isOneOf_16 kr 1 h
def Ke_hasRegister {ρ : Type} (a0 a1 : Int) (h : zH) (kr : Int → zH → Option ρ) : Option ρ :=
zob h 7 a0 fun p1 =>
X_isWithin a1 0 (wr ((zhD h 7 p1 0) - 1)) h  fun v2 h3 =>
znar 1 v2 fun x4 => kr x4 h3
def In_isAllowed_69 {ρ : Type} (kr : Int → zH → Option ρ) (h : zH) : Option ρ :=
kr 0 h
def In_isAllowed_117 {ρ : Type} (kr : Int → zH → Option ρ) (t0 : Int) (h : zH) : Option ρ :=
znar 1 t0 fun x1 => kr x1 h
def In_isAllowed_112 {ρ : Type} (kr : Int → zH → Option ρ) (h : zH) : Option ρ :=
In_isAllowed_117 kr 1 h
def In_isAllowed_71 {ρ : Type} (kr : Int → zH → Option ρ) (a0 : Int) (h : zH) : Option ρ :=
zob h 8 a0 fun _ =>
In_isOneOf a0 8 h  fun v1 h2 =>
if v1 = 0 then (zob h2 8 a0 fun p3 =>
if (zhD h2 8 p3 0) = 99 then (zob h2 8 a0 fun p4 =>
X_isWithin (zhD h2 8 p4 2) 0 3 h2  fun v5 h6 =>
if v5 = 0 then In_isAllowed_117 kr 0 h6
else In_isAllowed_112 kr h6)
else In_isAllowed_112 kr h2)
else zob h2 8 a0 fun p7 =>
X_isWithin (zhD h2 8 p7 2) 0 39 h2  fun v8 h9 =>
znar 1 v8 fun x10 => kr x10 h9
def In_isAllowed_49 {ρ : Type} (kr : Int → zH → Option ρ) (a0 a1 : Int) (h : zH) : Option ρ :=
zob h 8 a0 fun _ =>
In_isOneOf a0 7 h  fun v1 h2 =>
if v1 = 0 then In_isAllowed_71 kr a0 h2
else zob h2 8 a0 fun p3 =>
zob h2 7 a1 fun _ =>
Ke_hasRegister a1 (zhD h2 8 p3 3) h2  fun v4 h5 =>
if v4 = 0 then In_isAllowed_69 kr h5
else In_isAllowed_71 kr a0 h5
def In_isAllowed_29 {ρ : Type} (kr : Int → zH → Option ρ) (a0 a1 : Int) (h : zH) : Option ρ :=
zob h 8 a0 fun _ =>
In_isOneOf a0 6 h  fun v1 h2 =>
if v1 = 0 then In_isAllowed_49 kr a0 a1 h2
else zob h2 8 a0 fun p3 =>
zob h2 7 a1 fun _ =>
Ke_hasRegister a1 (zhD h2 8 p3 2) h2  fun v4 h5 =>
if v4 = 0 then In_isAllowed_69 kr h5
else In_isAllowed_49 kr a0 a1 h5
def In_isAllowed {ρ : Type} (a0 a1 : Int) (h : zH) (kr : Int → zH → Option ρ) : Option ρ :=
zob h 8 a0 fun _ =>
In_isOneOf a0 4 h  fun v1 h2 =>
if v1 = 0 then In_isAllowed_69 kr h2
else zob h2 8 a0 fun _ =>
In_isOneOf a0 5 h2  fun v3 h4 =>
if v3 = 0 then In_isAllowed_29 kr a0 a1 h4
else zob h4 8 a0 fun p5 =>
zob h4 7 a1 fun _ =>
Ke_hasRegister a1 (zhD h4 8 p5 1) h4  fun v6 h7 =>
if v6 = 0 then In_isAllowed_69 kr h7
else In_isAllowed_29 kr a0 a1 h7
def Ke_append_32 {ρ : Type} (kr : Int → zH → Option ρ) (a0 : Int) (h : zH) : Option ρ :=
zob h 7 a0 fun p1 =>
kr (wr ((zhD h 7 p1 3) - 1)) h
def Ke_append {ρ : Type} (a0 a1 : Int) (h : zH) (kr : Int → zH → Option ρ) : Option ρ :=
zob h 7 a0 fun p1 =>
zob h 7 a0 fun p2 =>
zob h 33 (zhD h 7 p2 2) fun p3 =>
if (zhD h 7 p1 3) < (zhL h 33 p3 : Int) then (zob h 7 a0 fun p4 =>
zob h 7 a0 fun p5 =>
zob h 33 (zhD h 7 p4 2) fun p6 =>
zix (zhL h 33 p6) (zhD h 7 p5 3) fun j7 =>
zorn h 8 a1 (zlet (zset h 33 p6 j7 a1) fun h8 =>
zob h8 7 a0 fun p9 =>
zob h8 7 a0 fun p10 =>
zlet (zset h8 7 p10 3 (wr ((zhD h8 7 p9 3) + 1))) fun h11 =>
Ke_append_32 kr a0 h11))
else Ke_append_32 kr a0 h
def X_code_58 {ρ : Type} (kr : Int → zH → Option ρ) (kt : Nat → zH → Option ρ) (h : zH) : Option ρ :=
zlet (zthrown h) fun h1 => kt 2 h1
def X_code {ρ : Type} (a0 a1 a2 a3 a4 a5 : Int) (h : zH) (kt : Nat → zH → Option ρ) (kr : Int → zH → Option ρ) : Option ρ :=
zob h 0 a0 fun _ =>
X_kernelAt a0 a1 h kt fun v1 h2 =>
zlet (znew h2 8 0 (znf zPP 8) (fun k => zdef (zft zPP 8 k))) fun h3 =>
zob h3 8 (zhN h2 8 : Int) fun _ =>
In_init (zhN h2 8 : Int) a2 a3 a4 a5 h3  fun _ h5 =>
zob h5 8 (zhN h2 8 : Int) fun _ =>
In_isAllowed (zhN h2 8 : Int) v1 h5  fun v6 h7 =>
if v6 = 0 then zlet (zthrown h7) fun h12 => kt 1 h12
else zob h7 7 v1 fun p8 =>
if (zhD h7 7 p8 3) < 40 then (zob h7 7 v1 fun p9 =>
if (zhD h7 7 p9 4) = 0 then (zob h7 7 v1 fun _ =>
Ke_append v1 (zhN h2 8 : Int) h7  fun v10 h11 =>
kr v10 h11)
else X_code_58 kr kt h7)
else X_code_58 kr kt h7
def X_groupsFor {ρ : Type} (a0 : Int) (h : zH) (kr : Int → zH → Option ρ) : Option ρ :=
kr (wr (Int.tdiv (wr ((wr (a0 + 4)) - 1)) 4)) h
def Ke_blocksInUnit_18 {ρ : Type} (kr : Int → zH → Option ρ) (h : zH) : Option ρ :=
kr 0 h
def Ke_blocksInUnit_62 {ρ : Type} (kr : Int → zH → Option ρ) (t0 : Int) (h : zH) : Option ρ :=
kr t0 h
def Ke_blocksInUnit {ρ : Type} (a0 a1 : Int) (h : zH) (kr : Int → zH → Option ρ) : Option ρ :=
X_isWithin a1 1 16 h  fun v1 h2 =>
if v1 = 0 then Ke_blocksInUnit_18 kr h2
else zob h2 7 a0 fun p3 =>
if (zhD h2 7 p3 0) < 1 then Ke_blocksInUnit_18 kr h2
else X_groupsFor a1 h2  fun v4 h5 =>
if v4 = 0 then none else zob h5 7 a0 fun p6 =>
if wr (a1 * (zhD h5 7 p6 0)) = 0 then none else Ma_min (wr (Int.tdiv 4 v4)) (wr (Int.tdiv 64 (wr (a1 * (zhD h5 7 p6 0))))) h5  fun v7 h8 =>
zob h8 7 a0 fun p9 =>
if (zhD h8 7 p9 1) < 1 then Ke_blocksInUnit_62 kr v7 h8
else zob h8 7 a0 fun p10 =>
if zhD h8 7 p10 1 = 0 then none else Ma_min v7 (wr (Int.tdiv 32 (zhD h8 7 p10 1))) h8  fun v11 h12 =>
Ke_blocksInUnit_62 kr v11 h12
def X_fits {ρ : Type} (a0 a1 a2 : Int) (h : zH) (kt : Nat → zH → Option ρ) (kr : Int → zH → Option ρ) : Option ρ :=
zob h 0 a0 fun _ =>
X_kernelAt a0 a1 h kt fun v1 h2 =>
X_isWithin a2 1 16 h2  fun v3 h4 =>
if v3 = 0 then zlet (zthrown h4) fun h7 => kt 1 h7
else zob h4 7 v1 fun _ =>
Ke_blocksInUnit v1 a2 h4  fun v5 h6 =>
kr v5 h6
def X_isCell {ρ : Type} (a0 : Int) (h : zH) (kr : Int → zH → Option ρ) : Option ρ :=
X_isWithin a0 0 63 h  fun v1 h2 =>
znar 1 v1 fun x3 => kr x3 h2
def X_poke {ρ : Type} (a0 a1 a2 : Int) (h : zH) (kt : Nat → zH → Option ρ) (kr : Int → zH → Option ρ) : Option ρ :=
X_isCell a1 h  fun v1 h2 =>
if v1 = 0 then zlet (zthrown h2) fun h12 => kt 3 h12
else zob h2 0 a0 fun p3 =>
zob h2 2 (zhD h2 0 p3 1) fun p4 =>
zob h2 22 (zhD h2 2 p4 1) fun p5 =>
zix (zhL h2 22 p5) a1 fun j6 =>
zob h2 0 a0 fun p7 =>
zob h2 2 (zhD h2 0 p7 1) fun p8 =>
zob h2 22 (zhD h2 2 p8 1) fun p9 =>
zix (zhL h2 22 p9) a1 fun j10 =>
zlet (zset h2 22 p9 j10 a2) fun h11 =>
kr (zhD h2 22 p5 j6) h11
def X_peek {ρ : Type} (a0 a1 : Int) (h : zH) (kt : Nat → zH → Option ρ) (kr : Int → zH → Option ρ) : Option ρ :=
X_isCell a1 h  fun v1 h2 =>
if v1 = 0 then zlet (zthrown h2) fun h7 => kt 3 h7
else zob h2 0 a0 fun p3 =>
zob h2 2 (zhD h2 0 p3 1) fun p4 =>
zob h2 22 (zhD h2 2 p4 1) fun p5 =>
zix (zhL h2 22 p5) a1 fun j6 =>
kr (zhD h2 22 p5 j6) h2
def Le_launchOf_24 {ρ : Type} (kr : Int → zH → Option ρ) (t0 : Int) (h : zH) : Option ρ :=
kr t0 h
def Le_launchOf {ρ : Type} (a0 a1 : Int) (h : zH) (kr : Int → zH → Option ρ) : Option ρ :=
zob h 1 a0 fun p1 =>
X_isWithin a1 0 (wr ((zhD h 1 p1 3) - 1)) h  fun v2 h3 =>
if v2 = 0 then Le_launchOf_24 kr (-1) h3
else zob h3 1 a0 fun p4 =>
zob h3 21 (zhD h3 1 p4 1) fun p5 =>
zix (zhL h3 21 p5) a1 fun j6 =>
Le_launchOf_24 kr (zhD h3 21 p5 j6) h3
def X_launchAt {ρ : Type} (a0 a1 : Int) (h : zH) (kt : Nat → zH → Option ρ) (kr : Int → zH → Option ρ) : Option ρ :=
zob h 0 a0 fun p1 =>
zob h 1 (zhD h 0 p1 0) fun _ =>
Le_launchOf (zhD h 0 p1 0) a1 h  fun v2 h3 =>
if v2 < 0 then zlet (zthrown h3) fun h4 => kt 3 h4
else kr v2 h3
def X_checkQueueAndAfter_28 {ρ : Type} (kr : Int → zH → Option ρ) (kt : Nat → zH → Option ρ) (h : zH) : Option ρ :=
kr 0 h
def X_checkQueueAndAfter {ρ : Type} (a0 a1 a2 : Int) (h : zH) (kt : Nat → zH → Option ρ) (kr : Int → zH → Option ρ) : Option ρ :=
X_isWithin a1 0 1 h  fun v1 h2 =>
if v1 = 0 then zlet (zthrown h2) fun h5 => kt 3 h5
else if a2 = (-1) then X_checkQueueAndAfter_28 kr kt h2
else zob h2 0 a0 fun _ =>
X_launchAt a0 a2 h2 kt fun v3 h4 =>
X_checkQueueAndAfter_28 kr kt h4
def X_checkRoomForLaunch {ρ : Type} (a0 : Int) (h : zH) (kt : Nat → zH → Option ρ) (kr : Int → zH → Option ρ) : Option ρ :=
zob h 0 a0 fun p1 =>
zob h 1 (zhD h 0 p1 0) fun p2 =>
if (zhD h 1 p2 3) < 12 then kr 0 h
else zlet (zthrown h) fun h3 => kt 2 h3
def La_useKernel {ρ : Type} (a0 a1 a2 a3 : Int) (h : zH) (kr : Int → zH → Option ρ) : Option ρ :=
zob h 9 a0 fun p1 =>
zlet (zset h 9 p1 5 a1) fun h2 =>
zob h2 9 a0 fun p3 =>
zob h2 7 (zhD h2 9 p3 5) fun p4 =>
zlet (zset h2 7 p4 4 1) fun h5 =>
zob h5 9 a0 fun p6 =>
zlet (zset h5 9 p6 6 a2) fun h7 =>
zob h7 9 a0 fun p8 =>
zlet (zset h7 9 p8 7 a3) fun h9 =>
kr 0 h9
def La_init {ρ : Type} (a0 a1 a2 a3 a4 a5 : Int) (h : zH) (kr : Int → zH → Option ρ) : Option ρ :=
zob h 9 a0 fun _ =>
zob h 9 a0 fun p2 =>
zlet (zset h 9 p2 10 113) fun h3 =>
zix 100000 64 fun n4 =>
zlet (znew h3 34 n4 n4 (fun _ => 0)) fun h5 =>
zob h5 9 a0 fun p6 =>
zlet (zset h5 9 p6 16 (zhN h3 34 : Int)) fun h7 =>
zix 100000 64 fun n8 =>
zlet (znew h7 35 n8 n8 (fun _ => 0)) fun h9 =>
zob h9 9 a0 fun p10 =>
zlet (zset h9 9 p10 17 (zhN h7 35 : Int)) fun h11 =>
zob h11 9 a0 fun p12 =>
zlet (zset h11 9 p12 0 a1) fun h13 =>
zob h13 9 a0 fun p14 =>
zlet (zset h13 9 p14 1 a2) fun h15 =>
zob h15 9 a0 fun p16 =>
zlet (zset h15 9 p16 2 a3) fun h17 =>
zob h17 9 a0 fun p18 =>
zlet (zset h17 9 p18 3 a4) fun h19 =>
zob h19 9 a0 fun p20 =>
zlet (zset h19 9 p20 4 a5) fun h21 =>
kr 0 h21
def La_isOver_32 {ρ : Type} (kr : Int → zH → Option ρ) (t0 : Int) (h : zH) : Option ρ :=
znar 1 t0 fun x1 => kr x1 h
def La_isOver_27 {ρ : Type} (kr : Int → zH → Option ρ) (h : zH) : Option ρ :=
La_isOver_32 kr 1 h
def La_isOver {ρ : Type} (a0 : Int) (h : zH) (kr : Int → zH → Option ρ) : Option ρ :=
zob h 9 a0 fun p1 =>
if (zhD h 9 p1 10) = 100 then La_isOver_27 kr h
else zob h 9 a0 fun p2 =>
if (zhD h 9 p2 10) = 102 then La_isOver_27 kr h
else zob h 9 a0 fun p3 =>
if (zhD h 9 p3 10) = 120 then La_isOver_27 kr h
else La_isOver_32 kr 0 h
def Le_enter_32 {ρ : Type} (kr : Int → zH → Option ρ) (a1 : Int) (h : zH) : Option ρ :=
kr a1 h
def Le_enter {ρ : Type} (a0 a1 : Int) (h : zH) (kr : Int → zH → Option ρ) : Option ρ :=
zob h 1 a0 fun p1 =>
zob h 1 a0 fun p2 =>
zob h 21 (zhD h 1 p2 1) fun p3 =>
if (zhD h 1 p1 3) < (zhL h 21 p3 : Int) then (zob h 1 a0 fun p4 =>
zob h 1 a0 fun p5 =>
zob h 21 (zhD h 1 p4 1) fun p6 =>
zix (zhL h 21 p6) (zhD h 1 p5 3) fun j7 =>
zorn h 9 a1 (zlet (zset h 21 p6 j7 a1) fun h8 =>
zob h8 1 a0 fun p9 =>
zob h8 1 a0 fun p10 =>
zlet (zset h8 1 p10 3 (wr ((zhD h8 1 p9 3) + 1))) fun h11 =>
Le_enter_32 kr a1 h11))
else Le_enter_32 kr a1 h
def Le_lastIn_7b {ρ : Type} (kr : Int → zH → Option ρ) (r7 : Int → Int → Int → zH → Option ρ) (a0 a1 a2 : Int) (h : zH) : Option ρ :=
if a2 < 0 then kr (-1) h
else zob h 1 a0 fun p1 =>
zob h 21 (zhD h 1 p1 1) fun p2 =>
zix (zhL h 21 p2) a2 fun j3 =>
zob h 9 (zhD h 21 p2 j3) fun p4 =>
if (zhD h 9 p4 1) = a1 then (zob h 1 a0 fun p5 =>
zob h 21 (zhD h 1 p5 1) fun p6 =>
zix (zhL h 21 p6) a2 fun j7 =>
kr (zhD h 21 p6 j7) h)
else r7 a0 a1 (wr (a2 + (-1))) h
def Le_lastIn_7 {ρ : Type} (kr : Int → zH → Option ρ) : Int → Int → Int → zH → Option ρ := zit (fun _ _ _ _ => none) (Le_lastIn_7b kr) zN
def Le_lastIn {ρ : Type} (a0 a1 : Int) (h : zH) (kr : Int → zH → Option ρ) : Option ρ :=
zob h 1 a0 fun p1 =>
Le_lastIn_7 kr a0 a1 (wr ((zhD h 1 p1 3) - 1)) h
def Le_enterHostLaunch_44 {ρ : Type} (kr : Int → zH → Option ρ) (a0 a2 t0 t1 t2 t3 t4 t5 : Int) (h : zH) : Option ρ :=
zob h 1 a0 fun _ =>
Le_launchOf a0 a2 h  fun v1 h2 =>
zob h2 9 t3 fun _ =>
La_init t3 t2 t1 t0 v1 (-1) h2  fun _ h4 =>
zob h4 1 t5 fun _ =>
Le_enter t5 t4 h4  fun v5 h6 =>
kr v5 h6
def Le_enterHostLaunch_22 {ρ : Type} (kr : Int → zH → Option ρ) (a0 a1 a2 a3 t0 : Int) (h : zH) : Option ρ :=
zlet (znew h 9 0 (znf zPP 9) (fun k => zdef (zft zPP 9 k))) fun h1 =>
zob h1 1 a0 fun p2 =>
if t0 = 0 then Le_enterHostLaunch_44 kr a0 a2 a3 a1 (zhD h1 1 p2 3) (zhN h 9 : Int) (zhN h 9 : Int) a0 h1
else Le_enterHostLaunch_44 kr a0 a2 (-1) a1 (zhD h1 1 p2 3) (zhN h 9 : Int) (zhN h 9 : Int) a0 h1
def Le_enterHostLaunch_17 {ρ : Type} (kr : Int → zH → Option ρ) (a0 a1 a2 a3 : Int) (h : zH) : Option ρ :=
Le_enterHostLaunch_22 kr a0 a1 a2 a3 1 h
def Le_enterHostLaunch {ρ : Type} (a0 a1 a2 : Int) (h : zH) (kr : Int → zH → Option ρ) : Option ρ :=
zob h 1 a0 fun _ =>
Le_lastIn a0 a1 h  fun v1 h2 =>
if v1 < 0 then Le_enterHostLaunch_17 kr a0 a1 a2 v1 h2
else zob h2 9 v1 fun _ =>
La_isOver v1 h2  fun v3 h4 =>
if v3 = 0 then Le_enterHostLaunch_22 kr a0 a1 a2 v1 0 h4
else Le_enterHostLaunch_17 kr a0 a1 a2 v1 h4
def X_launch_35 {ρ : Type} (kr : Int → zH → Option ρ) (kt : Nat → zH → Option ρ) (h : zH) : Option ρ :=
zlet (zthrown h) fun h1 => kt 1 h1
def X_launch {ρ : Type} (a0 a1 a2 a3 a4 a5 : Int) (h : zH) (kt : Nat → zH → Option ρ) (kr : Int → zH → Option ρ) : Option ρ :=
zob h 0 a0 fun _ =>
X_checkQueueAndAfter a0 a1 a5 h kt fun _ h2 =>
zob h2 0 a0 fun _ =>
X_kernelAt a0 a2 h2 kt fun v3 h4 =>
X_isWithin a3 1 6 h4  fun v5 h6 =>
if v5 = 0 then X_launch_35 kr kt h6
else X_isWithin a4 1 16 h6  fun v7 h8 =>
if v7 = 0 then X_launch_35 kr kt h8
else zob h8 7 v3 fun _ =>
Ke_blocksInUnit v3 a4 h8  fun v9 h10 =>
if v9 = 0 then zlet (zthrown h10) fun h19 => kt 4 h19
else zob h10 0 a0 fun _ =>
X_checkRoomForLaunch a0 h10 kt fun _ h12 =>
zob h12 0 a0 fun p13 =>
zob h12 1 (zhD h12 0 p13 0) fun _ =>
Le_enterHostLaunch (zhD h12 0 p13 0) a1 a5 h12  fun v14 h15 =>
zob h15 9 v14 fun _ =>
La_useKernel v14 v3 a3 a4 h15  fun _ h17 =>
zob h17 9 v14 fun p18 =>
kr (zhD h17 9 p18 0) h17
def La_useCopy {ρ : Type} (a0 a1 a2 a3 : Int) (h : zH) (kr : Int → zH → Option ρ) : Option ρ :=
zob h 9 a0 fun p1 =>
zlet (zset h 9 p1 13 a1) fun h2 =>
zob h2 9 a0 fun p3 =>
zlet (zset h2 9 p3 14 a2) fun h4 =>
zob h4 9 a0 fun p5 =>
zlet (zset h4 9 p5 15 a3) fun h6 =>
kr 0 h6
def X_copy_44 {ρ : Type} (kr : Int → zH → Option ρ) (kt : Nat → zH → Option ρ) (h : zH) : Option ρ :=
zlet (zthrown h) fun h1 => kt 1 h1
def X_copy {ρ : Type} (a0 a1 a2 a3 a4 a5 : Int) (h : zH) (kt : Nat → zH → Option ρ) (kr : Int → zH → Option ρ) : Option ρ :=
zob h 0 a0 fun _ =>
X_checkQueueAndAfter a0 a1 a5 h kt fun _ h2 =>
X_isWithin a4 1 64 h2  fun v3 h4 =>
if v3 = 0 then X_copy_44 kr kt h4
else X_isWithin a2 0 (wr (64 - a4)) h4  fun v5 h6 =>
if v5 = 0 then X_copy_44 kr kt h6
else X_isWithin a3 0 (wr (64 - a4)) h6  fun v7 h8 =>
if v7 = 0 then X_copy_44 kr kt h8
else zob h8 0 a0 fun _ =>
X_checkRoomForLaunch a0 h8 kt fun _ h10 =>
zob h10 0 a0 fun p11 =>
zob h10 1 (zhD h10 0 p11 0) fun _ =>
Le_enterHostLaunch (zhD h10 0 p11 0) a1 a5 h10  fun v12 h13 =>
zob h13 9 v12 fun _ =>
La_useCopy v12 a2 a3 a4 h13  fun _ h15 =>
zob h15 9 v12 fun p16 =>
kr (zhD h15 9 p16 0) h15
def X_launches {ρ : Type} (a0 : Int) (h : zH) (kr : Int → zH → Option ρ) : Option ρ :=
zob h 0 a0 fun p1 =>
zob h 1 (zhD h 0 p1 0) fun p2 =>
kr (zhD h 1 p2 3) h
def X_state {ρ : Type} (a0 a1 : Int) (h : zH) (kt : Nat → zH → Option ρ) (kr : Int → zH → Option ρ) : Option ρ :=
zob h 0 a0 fun _ =>
X_launchAt a0 a1 h kt fun v1 h2 =>
zob h2 9 v1 fun p3 =>
znar 2 (zhD h2 9 p3 10) fun x4 => kr x4 h2
def X_parent {ρ : Type} (a0 a1 : Int) (h : zH) (kt : Nat → zH → Option ρ) (kr : Int → zH → Option ρ) : Option ρ :=
zob h 0 a0 fun _ =>
X_launchAt a0 a1 h kt fun v1 h2 =>
zob h2 9 v1 fun p3 =>
if (zhD h2 9 p3 4) < 0 then zlet (zthrown h2) fun h6 => kt 5 h6
else zob h2 9 v1 fun p4 =>
zob h2 9 (zhD h2 9 p4 4) fun p5 =>
kr (zhD h2 9 p5 0) h2
