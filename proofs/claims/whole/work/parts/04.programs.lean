/-! J7_fill_031fb -/
def g_J7_fill_031fb_b5 (E : EN) (kh5 : ST → Int32 → Int32 → Int32 → Option ST) (S : ST) (v1 : Int32) (v2 : Int32) (v3 : Int32) : Option ST :=
  (if v3 ≤ v2 then
    some S
  else
    ck_ (ib_ v2 2700) <|
    lt_ (sI S 11 0 v2.toNatClampNeg v1.toInt8.toInt32) fun S2 =>
    lt_ (v2 + (1 : Int32)) fun x3 =>
    kh5 S2 v1 x3 v3)
def f_J7_fill_031fb_b5 (E : EN) (n : Nat) : ST → Int32 → Int32 → Int32 → Option ST := fx_ (fun _ _ _ _ => none) (g_J7_fill_031fb_b5 E) n
def f_J7_fill_031fb (E : EN) (S : ST) (a2 : Int32) : Option ST :=
  f_J7_fill_031fb_b5 E E.1 S a2 (0 : Int32) (2700 : Int32)
/-! X0_rely -/
def f_X0_rely_b17 (E : EN) (S : ST) (v1 : Nat) (v2 : Int32) (v3 : Int32) : Option ST :=
  lt_ (sR S 10 0 0 (some v1)) fun S1 =>
  lt_ (sI S1 10 0 1 v2) fun S2 =>
  lt_ (sI S2 10 0 2 v3) fun S3 =>
  bd_ (f_J7_fill_031fb E S3 (-1 : Int32)) fun S4 =>
  some S4
def f_X0_rely (E : EN) (S : ST) (a1 : Nat) (a2 : Int32) (a3 : Int32) : Option ST :=
  (if a2 = (gI S 10 0 1) then
    (if a3 = (gI S 10 0 2) then
      some S
    else
      f_X0_rely_b17 E S a1 a2 a3)
  else
    f_X0_rely_b17 E S a1 a2 a3)
/-! X0_joined -/
def f_X0_joined_b68 (E : EN) (S : ST)  : Option Int32 :=
  some (1 : Int32)
def f_X0_joined (E : EN) (S : ST) (a1 : Int32) (a2 : Int32) (a3 : Int32) : Option Int32 :=
  (if a1 = (43 : Int32) then
    some (a2 + a3)
  else
    (if a1 = (45 : Int32) then
      some (a2 - a3)
    else
      (if a1 = (60 : Int32) then
        (if a3 ≤ a2 then
          some (0 : Int32)
        else
          some (1 : Int32))
      else
        (if a1 = (61 : Int32) then
          (if a2 = a3 then
            some (1 : Int32)
          else
            some (0 : Int32))
        else
          (if a1 = (259 : Int32) then
            (if a2 = 0 then
              (if a3 = 0 then
                some (0 : Int32)
              else
                f_X0_joined_b68 E S)
            else
              f_X0_joined_b68 E S)
          else
            (if a1 = (260 : Int32) then
              (if a2 = 0 then
                some (0 : Int32)
              else
                (if a3 = 0 then
                  some (0 : Int32)
                else
                  some (1 : Int32)))
            else
              some (a2 * a3)))))))
/-! X0_worth -/
def f_X0_worth_b230 (E : EN) (S : ST)  : Option (Int32 × ST) :=
  some (gI S 13 0 0, S)
def f_X0_worth_b224 (E : EN) (kh30 : ST → Int32 → Int32 → Int32 → Option (Int32 × ST)) (S : ST) (v1 : Int32) (v2 : Int32) (v3 : Int32) : Option (Int32 × ST) :=
  lt_ (v3 + (1 : Int32)) fun x1 =>
  kh30 S v1 v2 x1
def f_X0_worth_b189 (E : EN) (kh30 : ST → Int32 → Int32 → Int32 → Option (Int32 × ST)) (S : ST) (v1 : Int32) (v2 : Int32) (v3 : Int32) (v4 : Int32) : Option (Int32 × ST) :=
  (if v2 ≤ (1 : Int32) then
    f_X0_worth_b224 E kh30 S v1 v2 v3
  else
    lt_ (v2 + (-1 : Int32)) fun x2 =>
    ck_ (ib_ (x2 - (1 : Int32)) 160) <|
    ck_ (ib_ x2 160) <|
    bd_ (f_X0_joined E S v4 (gI S 13 0 (x2 - (1 : Int32)).toNatClampNeg) (gI S 13 0 x2.toNatClampNeg)) fun r5 =>
    lt_ (sI S 13 0 (x2 - (1 : Int32)).toNatClampNeg r5) fun S6 =>
    f_X0_worth_b224 E kh30 S6 v1 x2 v3)
def f_X0_worth_b185 (E : EN) (kh30 : ST → Int32 → Int32 → Int32 → Option (Int32 × ST)) (S : ST) (v1 : Int32) (v2 : Int32) (v3 : Int32) (t0 : Int32) (t1 : Int32) : Option (Int32 × ST) :=
  ck_ (ib_ t1 160) <|
  lt_ (sI S 13 0 t1.toNatClampNeg t0) fun S8 =>
  f_X0_worth_b224 E kh30 S8 v1 v2 v3
def f_X0_worth_b146 (E : EN) (kh30 : ST → Int32 → Int32 → Int32 → Option (Int32 × ST)) (S : ST) (v1 : Int32) (v2 : Int32) (v3 : Int32) (v4 : Int32) : Option (Int32 × ST) :=
  ck_ (ib_ (v2 - (1 : Int32)) 160) <|
  lt_ (gI S 13 0 (v2 - (1 : Int32)).toNatClampNeg) fun x10 =>
  (if v4 = (1 : Int32) then
    f_X0_worth_b185 E kh30 S v1 v2 v3 (-x10) (v2 - (1 : Int32))
  else
    (if x10 = 0 then
      f_X0_worth_b185 E kh30 S v1 v2 v3 (1 : Int32) (v2 - (1 : Int32))
    else
      f_X0_worth_b185 E kh30 S v1 v2 v3 (0 : Int32) (v2 - (1 : Int32))))
def f_X0_worth_b128 (E : EN) (kh30 : ST → Int32 → Int32 → Int32 → Option (Int32 × ST)) (S : ST) (v1 : Int32) (v2 : Int32) (v3 : Int32) (v4 : Int32) : Option (Int32 × ST) :=
  (if v2 ≤ 0 then
    f_X0_worth_b189 E kh30 S v1 v2 v3 v4
  else
    (if v4 = (261 : Int32) then
      f_X0_worth_b146 E kh30 S v1 v2 v3 v4
    else
      (if v4 = (1 : Int32) then
        f_X0_worth_b146 E kh30 S v1 v2 v3 v4
      else
        f_X0_worth_b189 E kh30 S v1 v2 v3 v4)))
def f_X0_worth_b121 (E : EN) (kh30 : ST → Int32 → Int32 → Int32 → Option (Int32 × ST)) (S : ST) (v1 : Int32) (v2 : Int32) (v3 : Int32) (t0 : Int32) (t1 : Int32) : Option (Int32 × ST) :=
  ck_ (ib_ t1 160) <|
  lt_ (sI S 13 0 t1.toNatClampNeg t0) fun S12 =>
  lt_ (v2 + (1 : Int32)) fun x13 =>
  f_X0_worth_b224 E kh30 S12 v1 x13 v3
def g_X0_worth_b30 (E : EN) (kh30 : ST → Int32 → Int32 → Int32 → Option (Int32 × ST)) (S : ST) (v1 : Int32) (v2 : Int32) (v3 : Int32) : Option (Int32 × ST) :=
  lt_ (gR S 10 0 0) fun o14 =>
  nl_ o14
    (none)
    fun k15 => ck_ (decide (k15 < E.2.2.1)) <|
    ck_ (ib_ (v1 + (1 : Int32)) 4) <|
    (if (gI S 32 k15 (v1 + (1 : Int32)).toNatClampNeg) ≤ v3 then
      f_X0_worth_b230 E S
    else
      lt_ (gR S 10 0 0) fun o18 =>
      nl_ o18
        (none)
        fun k19 => ck_ (decide (k19 < E.2.2.1)) <|
        (if (nI (vl_ S 31 k19)) ≤ v3 then
          f_X0_worth_b230 E S
        else
          lt_ (gR S 10 0 0) fun o21 =>
          nl_ o21
            (none)
            fun k22 => ck_ (decide (k22 < E.2.2.1)) <|
            ck_ (ib_ v3 (vl_ S 31 k22)) <|
            lt_ (gI S 31 k22 v3.toNatClampNeg) fun x25 =>
            (if x25 < (262 : Int32) then
              f_X0_worth_b128 E kh30 S v1 v2 v3 x25
            else
              (if (160 : Int32) ≤ v2 then
                f_X0_worth_b128 E kh30 S v1 v2 v3 x25
              else
                (if x25 < (1000 : Int32) then
                  ck_ (ib_ (rmI (x25 - (262 : Int32)) (6 : Int32)) 6) <|
                  f_X0_worth_b121 E kh30 S v1 v2 v3 (gI S 12 0 (rmI (x25 - (262 : Int32)) (6 : Int32)).toNatClampNeg) v2
                else
                  f_X0_worth_b121 E kh30 S v1 v2 v3 (x25 - (1000 : Int32)) v2)))))
def f_X0_worth_b30 (E : EN) (n : Nat) : ST → Int32 → Int32 → Int32 → Option (Int32 × ST) := fx_ (fun _ _ _ _ => none) (g_X0_worth_b30 E) n
def f_X0_worth (E : EN) (S : ST) (a1 : Int32) : Option (Int32 × ST) :=
  lt_ (gR S 10 0 0) fun o27 =>
  nl_ o27
    (some ((0 : Int32), S))
    fun k28 => ck_ (decide (k28 < E.2.2.1)) <|
    (if a1 < 0 then
      some ((0 : Int32), S)
    else
      (if a1 < (3 : Int32) then
        lt_ (gR S 10 0 0) fun o30 =>
        nl_ o30
          (none)
          fun k31 => ck_ (decide (k31 < E.2.2.1)) <|
          ck_ (ib_ a1 4) <|
          lt_ (gI S 32 k31 a1.toNatClampNeg) fun x34 =>
          f_X0_worth_b30 E E.1 S a1 (0 : Int32) x34
      else
        some ((0 : Int32), S)))
/-! X0_asks -/
def f_X0_asks_b154 (E : EN) (S : ST) (v6 : Int32) : Option (Int32 × ST) :=
  ck_ (ib_ v6 2700) <|
  some (gI S 11 0 v6.toNatClampNeg, S)
def f_X0_asks_b153 (E : EN) (S : ST) (v6 : Int32) (t0 : Int32) (t1 : Int32) : Option (Int32 × ST) :=
  ck_ (ib_ t1 2700) <|
  lt_ (sI S 11 0 t1.toNatClampNeg t0.toInt8.toInt32) fun S3 =>
  f_X0_asks_b154 E S3 v6
def f_X0_asks_b138 (E : EN) (S : ST) (v1 : Int32) (v6 : Int32) (v7 : Int32) (t0 : Int32) : Option (Int32 × ST) :=
  bd2 (f_X0_worth E S v1) fun r4 S5 =>
  f_X0_asks_b153 E S5 v6 ((mxI (0 : Int32) (mnI v7 r4)).toInt8.toInt32) t0
def f_X0_asks_b117 (E : EN) (S : ST) (v1 : Int32) (v2 : Int32) (v6 : Int32) (t0 : Int32) : Option (Int32 × ST) :=
  (if v1 = 0 then
    (if v2 = (4 : Int32) then
      f_X0_asks_b153 E S v6 (0 : Int32) v6
    else
      f_X0_asks_b138 E S v1 v6 t0 v6)
  else
    f_X0_asks_b138 E S v1 v6 t0 v6)
def f_X0_asks (E : EN) (S : ST) (a1 : Int32) (a2 : Int32) (a3 : Int32) (a4 : Int32) (a5 : Int32) : Option (Int32 × ST) :=
  lt_ ((((((((a1 * (6 : Int32)) + a5) * (6 : Int32)) + a4) * (5 : Int32)) + a3) * (5 : Int32)) + a2) fun x6 =>
  (if x6 < 0 then
    some ((0 : Int32), S)
  else
    (if x6 < (2700 : Int32) then
      ck_ (ib_ x6 2700) <|
      (if (gI S 11 0 x6.toNatClampNeg) = (-1 : Int32) then
        lt_ (sI S 12 0 0 a2) fun S8 =>
        lt_ (sI S8 12 0 1 a3) fun S9 =>
        lt_ (sI S9 12 0 2 a4) fun S10 =>
        lt_ (sI S10 12 0 3 (gI S10 10 0 2)) fun S11 =>
        lt_ (sI S11 12 0 4 a5) fun S12 =>
        lt_ (sI S12 12 0 5 (mxI (0 : Int32) ((4 : Int32) - a4))) fun S13 =>
        (if a1 = (2 : Int32) then
          f_X0_asks_b117 E S13 a1 a2 x6 (99 : Int32)
        else
          f_X0_asks_b117 E S13 a1 a2 x6 (10 : Int32))
      else
        f_X0_asks_b154 E S x6)
    else
      some ((0 : Int32), S)))
/-! X1_begin -/
def f_X1_begin_b29 (E : EN) (S : ST) (v2 : Int32) (v3 : Int32) (v4 : Int32) : Option ST :=
  lt_ (sI S 18 0 0 v2) fun S1 =>
  lt_ (sI S1 19 0 0 (0 : Int32)) fun S2 =>
  lt_ (sI S2 16 0 4 v3) fun S3 =>
  lt_ (sI S3 16 0 5 v4) fun S4 =>
  lt_ (sI S4 16 0 6 (0 : Int32)) fun S5 =>
  some S5
def g_X1_begin_b3 (E : EN) (kh3 : ST → Nat → Int32 → Int32 → Int32 → Int32 → Option ST) (S : ST) (v1 : Nat) (v2 : Int32) (v3 : Int32) (v4 : Int32) (v5 : Int32) : Option ST :=
  (if (5 : Int32) ≤ v5 then
    f_X1_begin_b29 E S v2 v3 v4
  else
    ck_ (ib_ v5 5) <|
    lt_ (sL S 28 0 v5.toNatClampNeg ((gI S 21 v1 v5.toNatClampNeg).toInt64)) fun S7 =>
    lt_ (v5 + (1 : Int32)) fun x8 =>
    kh3 S7 v1 v2 v3 v4 x8)
def f_X1_begin_b3 (E : EN) (n : Nat) : ST → Nat → Int32 → Int32 → Int32 → Int32 → Option ST := fx_ (fun _ _ _ _ _ _ => none) (g_X1_begin_b3 E) n
def f_X1_begin (E : EN) (S : ST) (a1 : Nat) (a2 : Int32) (a3 : Int32) (a4 : Int32) : Option ST :=
  f_X1_begin_b3 E E.1 S a1 a2 a3 a4 (0 : Int32)
/-! X1_pass -/
def f_X1_pass_b143 (E : EN) (kh51 : ST → Int32 → Int32 → Nat → Nat → Int64 → Int32 → Option ST) (S : ST) (v1 : Int32) (v2 : Int32) (v3 : Nat) (v4 : Nat) (v7 : Int32) (v8 : Int64) (t0 : Int64) (t1 : Int64) (t2 : Int32) (t3 : Nat) : Option ST :=
  ck_ (ib_ t2 5) <|
  lt_ (sL S 28 t3 t2.toNatClampNeg (t1 * t0)) fun S2 =>
  ck_ (ib_ v7 5) <|
  lt_ ((gL S2 28 v3 v7.toNatClampNeg) * v8) fun x4 =>
  lt_ (v7 + (1 : Int32)) fun x5 =>
  kh51 S2 v1 v2 v3 v4 x4 x5
def g_X1_pass_b51 (E : EN) (kh51 : ST → Int32 → Int32 → Nat → Nat → Int64 → Int32 → Option ST) (S : ST) (v1 : Int32) (v2 : Int32) (v3 : Nat) (v4 : Nat) (v5 : Int64) (v7 : Int32) : Option ST :=
  (if (5 : Int32) ≤ v7 then
    some S
  else
    ck_ (ib_ v1 6) <|
    bd2 (f_X0_asks E S (0 : Int32) v7 (gI S 18 0 v1.toNatClampNeg) v1 (gI S 19 0 v1.toNatClampNeg)) fun r7 S8 =>
    bd2 (f_X0_asks E S8 (1 : Int32) v7 (gI S8 18 0 v1.toNatClampNeg) v1 (gI S8 19 0 v1.toNatClampNeg)) fun r9 S10 =>
    ck_ (ib_ v7 5) <|
    (if v2 = (1 : Int32) then
      f_X1_pass_b143 E kh51 S10 v1 v2 v3 v4 v7 r7.toInt64 r9.toInt64 (((gL S10 28 v3 v7.toNatClampNeg) * ((10 : Int64) - r7.toInt64)) + v5) v7 v4
    else
      f_X1_pass_b143 E kh51 S10 v1 v2 v3 v4 v7 r7.toInt64 ((10 : Int64) - r9.toInt64) (((gL S10 28 v3 v7.toNatClampNeg) * ((10 : Int64) - r7.toInt64)) + v5) v7 v4))
def f_X1_pass_b51 (E : EN) (n : Nat) : ST → Int32 → Int32 → Nat → Nat → Int64 → Int32 → Option ST := fx_ (fun _ _ _ _ _ _ _ => none) (g_X1_pass_b51 E) n
def f_X1_pass (E : EN) (S : ST) (a1 : Int32) (a2 : Int32) : Option ST :=
  (if a1 < 0 then
    some S
  else
    (if a1 < (5 : Int32) then
      lt_ (sI S 16 0 6 (((gI S 16 0 6) &&& (((1 : Int32) <<< (a1 &&& 31)) ^^^ (-1 : Int32))) ||| (a2 <<< (a1 &&& 31)))) fun S12 =>
      ck_ (ib_ a1 6) <|
      ck_ (ib_ (a1 + (1 : Int32)) 6) <|
      f_X1_pass_b51 E E.1 S12 a1 a2 a1.toNatClampNeg ((a1 + (1 : Int32)).toNatClampNeg) (0 : Int64) (0 : Int32)
    else
      some S))
/-! X6_held -/
def f_X6_held (E : EN) (S : ST) (a1 : Int32) : Option Int32 :=
  some (mxI (0 : Int32) (mnI (4 : Int32) a1))
/-! X1_settle -/
def f_X1_settle_b64 (E : EN) (S : ST) (t0 : Int32) (t1 : Int32) (t2 : Int32) : Option ST :=
  ck_ (ib_ t2 6) <|
  lt_ (sI S 19 0 t2.toNatClampNeg (t1 + t0)) fun S2 =>
  some S2
def f_X1_settle (E : EN) (S : ST) (a1 : Int32) (a2 : Int32) : Option ST :=
  (if a1 < 0 then
    some S
  else
    (if a1 < (5 : Int32) then
      ck_ (ib_ a1 6) <|
      bd_ (f_X6_held E S ((gI S 18 0 a1.toNatClampNeg) + a2)) fun r4 =>
      ck_ (ib_ (a1 + (1 : Int32)) 6) <|
      lt_ (sI S 18 0 (a1 + (1 : Int32)).toNatClampNeg r4) fun S6 =>
      (if (gI S6 18 0 (a1 + (1 : Int32)).toNatClampNeg) = (gI S6 18 0 a1.toNatClampNeg) then
        f_X1_settle_b64 E S6 (0 : Int32) (gI S6 19 0 a1.toNatClampNeg) (a1 + (1 : Int32))
      else
        f_X1_settle_b64 E S6 (1 : Int32) (gI S6 19 0 a1.toNatClampNeg) (a1 + (1 : Int32)))
    else
      some S))
/-! X1_bounded -/
def f_X1_bounded (E : EN) (S : ST) (a1 : Int32) : Option Int32 :=
  some (mxI (0 : Int32) (mnI (5 : Int32) a1))
/-! X1_from -/
def g_X1_from_b20 (E : EN) (kh20 : ST → Nat → Int64 → Int32 → Option Int64) (S : ST) (v3 : Nat) (v4 : Int64) (v6 : Int32) : Option Int64 :=
  (if (5 : Int32) ≤ v6 then
    some v4
  else
    ck_ (ib_ v6 5) <|
    lt_ (v4 + (gL S 28 v3 v6.toNatClampNeg)) fun x2 =>
    lt_ (v6 + (1 : Int32)) fun x3 =>
    kh20 S v3 x2 x3)
def f_X1_from_b20 (E : EN) (n : Nat) : ST → Nat → Int64 → Int32 → Option Int64 := fx_ (fun _ _ _ _ => none) (g_X1_from_b20 E) n
def f_X1_from (E : EN) (S : ST) (a1 : Int32) (a2 : Int32) : Option Int64 :=
  bd_ (f_X1_bounded E S a2) fun r4 =>
  ck_ (ib_ r4 6) <|
  lt_ (mxI (0 : Int32) a1) fun x6 =>
  f_X1_from_b20 E E.1 S r4.toNatClampNeg (0 : Int64) x6
/-! X1_sure -/
def f_X1_sure (E : EN) (S : ST) (a1 : Int32) : Option Int32 :=
  bd_ (f_X1_from E S (0 : Int32) (a1 + (1 : Int32))) fun r1 =>
  (if r1 ≤ (0 : Int64) then
    some (0 : Int32)
  else
    bd_ (f_X1_bounded E S a1) fun r2 =>
    ck_ (ib_ r2 6) <|
    bd_ (f_X1_from E S (gI S 18 0 r2.toNatClampNeg) (a1 + (1 : Int32))) fun r4 =>
    (if (r4 * (10 : Int64)) < (((gI S 16 0 5).toInt64) * r1) then
      some (0 : Int32)
    else
      some (1 : Int32)))
/-! X1_twice -/
def f_X1_twice (E : EN) (S : ST) (a1 : Int32) : Option Int32 :=
  (if a1 < (1 : Int32) then
    some (0 : Int32)
  else
    (if (5 : Int32) ≤ a1 then
      some (0 : Int32)
    else
      (if (((gI S 16 0 6) >>> ((a1 - (1 : Int32)) &&& 31)) &&& (3 : Int32)) = (3 : Int32) then
        ck_ (ib_ a1 6) <|
        ck_ (ib_ (a1 - (1 : Int32)) 6) <|
        (if (gI S 18 0 a1.toNatClampNeg) = (gI S 18 0 (a1 - (1 : Int32)).toNatClampNeg) then
          some (1 : Int32)
        else
          some (0 : Int32))
      else
        some (0 : Int32))))
/-! X1_unsure -/
def f_X1_unsure (E : EN) (S : ST) (a1 : Int32) : Option Int32 :=
  bd_ (f_X1_from E S (0 : Int32) (a1 + (1 : Int32))) fun r1 =>
  (if r1 ≤ (0 : Int64) then
    some (0 : Int32)
  else
    bd_ (f_X1_bounded E S a1) fun r2 =>
    ck_ (ib_ r2 6) <|
    bd_ (f_X1_from E S (gI S 18 0 r2.toNatClampNeg) (a1 + (1 : Int32))) fun r4 =>
    (if (((gI S 16 0 5).toInt64) * r1) ≤ (r4 * (20 : Int64)) then
      some (0 : Int32)
    else
      some (1 : Int32)))
/-! X1_wrongTwice -/
def f_X1_wrongTwice (E : EN) (S : ST) (a1 : Int32) : Option Int32 :=
  (if a1 < (1 : Int32) then
    some (0 : Int32)
  else
    (if (((gI S 16 0 6) >>> ((a1 - (1 : Int32)) &&& 31)) &&& (3 : Int32)) = 0 then
      some (1 : Int32)
    else
      some (0 : Int32)))
/-! X1_wish -/
def f_X1_wish_b104 (E : EN) (S : ST) (v1 : Int32) : Option Int32 :=
  bd_ (f_X1_twice E S v1) fun r1 =>
  some r1
def f_X1_wish_b130 (E : EN) (S : ST) (v1 : Int32) : Option Int32 :=
  bd_ (f_X1_sure E S v1) fun r2 =>
  some r2
def f_X1_wish (E : EN) (S : ST) (a1 : Int32) : Option Int32 :=
  (if a1 < 0 then
    some (0 : Int32)
  else
    (if a1 < (5 : Int32) then
      lt_ (gI S 16 0 4) fun x3 =>
      (if x3 = (1 : Int32) then
        bd_ (f_X1_twice E S a1) fun r4 =>
        some r4
      else
        (if x3 = (2 : Int32) then
          (if (gI S 16 0 5) ≤ 0 then
            some (0 : Int32)
          else
            ck_ (!decide ((gI S 16 0 5) = 0)) <|
            (if (rmI (a1 + (1 : Int32)) (gI S 16 0 5)) = 0 then
              some (1 : Int32)
            else
              some (0 : Int32)))
        else
          (if x3 = (3 : Int32) then
            bd_ (f_X1_sure E S a1) fun r6 =>
            some r6
          else
            (if x3 = (4 : Int32) then
              bd_ (f_X1_twice E S a1) fun r7 =>
              (if r7 = 0 then
                bd_ (f_X1_wrongTwice E S a1) fun r8 =>
                (if r8 = 0 then
                  f_X1_wish_b104 E S a1
                else
                  some (-1 : Int32))
              else
                f_X1_wish_b104 E S a1)
            else
              (if x3 = (5 : Int32) then
                bd_ (f_X1_sure E S a1) fun r9 =>
                (if r9 = 0 then
                  bd_ (f_X1_unsure E S a1) fun r10 =>
                  (if r10 = 0 then
                    f_X1_wish_b130 E S a1
                  else
                    some (-1 : Int32))
                else
                  f_X1_wish_b130 E S a1)
              else
                some (((gI S 16 0 6) >>> (a1 &&& 31)) &&& (1 : Int32)))))))
    else
      some (0 : Int32)))
/-! X1_follow -/
def g_X1_follow_b2 (E : EN) (kh2 : ST → Int32 → Int32 → Int32 → Option ST) (S : ST) (v1 : Int32) (v2 : Int32) (v3 : Int32) : Option ST :=
  (if v1 ≤ v3 then
    some S
  else
    (if (5 : Int32) ≤ v3 then
      some S
    else
      bd_ (f_X1_pass E S v3 ((v2 >>> (v3 &&& 31)) &&& (1 : Int32))) fun S1 =>
      bd_ (f_X1_wish E S1 v3) fun r2 =>
      bd_ (f_X1_settle E S1 v3 r2) fun S3 =>
      lt_ (v3 + (1 : Int32)) fun x4 =>
      kh2 S3 v1 v2 x4))
def f_X1_follow_b2 (E : EN) (n : Nat) : ST → Int32 → Int32 → Int32 → Option ST := fx_ (fun _ _ _ _ => none) (g_X1_follow_b2 E) n
def f_X1_follow (E : EN) (S : ST) (a1 : Int32) (a2 : Int32) : Option ST :=
  f_X1_follow_b2 E E.1 S a1 a2 (0 : Int32)
/-! X1_weightsAt -/
def f_X1_weightsAt (E : EN) (S : ST) (a1 : Int32) : Option (Option Nat) :=
  bd_ (f_X1_bounded E S a1) fun r1 =>
  ck_ (ib_ r1 6) <|
  some (some r1.toNatClampNeg)
/-! X1_classThen -/
def f_X1_classThen (E : EN) (S : ST) (a1 : Int32) : Option Int32 :=
  bd_ (f_X1_bounded E S a1) fun r1 =>
  ck_ (ib_ r1 6) <|
  some (gI S 18 0 r1.toNatClampNeg)
/-! X1_movedThen -/
def f_X1_movedThen (E : EN) (S : ST) (a1 : Int32) : Option Int32 :=
  bd_ (f_X1_bounded E S a1) fun r1 =>
  ck_ (ib_ r1 6) <|
  some (gI S 19 0 r1.toNatClampNeg)
/-! X1_together -/
def f_X1_together (E : EN) (S : ST) (a1 : Int32) : Option Int64 :=
  bd_ (f_X1_from E S (0 : Int32) a1) fun r1 =>
  some r1
/-! X1_fit -/
def f_X1_fit (E : EN) (S : ST) (a1 : Int32) : Option Int64 :=
  bd_ (f_X1_classThen E S a1) fun r1 =>
  bd_ (f_X1_from E S r1 a1) fun r2 =>
  some r2
/-! X1_share -/
def f_X1_share (E : EN) (S : ST) (a1 : Int32) : Option Int64 :=
  bd_ (f_X1_together E S a1) fun r1 =>
  (if r1 ≤ (0 : Int64) then
    some (0 : Int64)
  else
    bd_ (f_X1_fit E S a1) fun r2 =>
    ck_ (!decide (r1 = 0)) <|
    some ((r2 * (10000 : Int64)) / r1))
/-! X1_endsNow -/
def g_X1_endsNow_b4 (E : EN) (kh4 : ST → Int64 → Int32 → Option (Int64 × ST)) (S : ST) (v1 : Int64) (v3 : Int32) : Option (Int64 × ST) :=
  (if (5 : Int32) ≤ v3 then
    some (v1, S)
  else
    ck_ (ib_ v3 5) <|
    bd2 (f_X0_asks E S (2 : Int32) v3 (gI S 18 0 5) (5 : Int32) (gI S 19 0 5)) fun r2 S3 =>
    lt_ (v1 + ((gL S 28 5 v3.toNatClampNeg) * r2.toInt64)) fun x4 =>
    lt_ (v3 + (1 : Int32)) fun x5 =>
    kh4 S3 x4 x5)
def f_X1_endsNow_b4 (E : EN) (n : Nat) : ST → Int64 → Int32 → Option (Int64 × ST) := fx_ (fun _ _ _ => none) (g_X1_endsNow_b4 E) n
def f_X1_endsNow (E : EN) (S : ST)  : Option (Int64 × ST) :=
  f_X1_endsNow_b4 E E.1 S (0 : Int64) (0 : Int32)
/-! X1_ends -/
def g_X1_ends_b15 (E : EN) (rc0 : ST → Int32 → Option (Int64 × ST)) (kh15 : ST → Int32 → Int64 → Int32 → Option (Int64 × ST)) (S : ST) (v1 : Int32) (v2 : Int64) (v4 : Int32) : Option (Int64 × ST) :=
  (if (2 : Int32) ≤ v4 then
    some (v2, S)
  else
    bd_ (f_X1_pass E S v1 v4) fun S1 =>
    bd_ (f_X1_wish E S1 v1) fun r2 =>
    bd_ (f_X1_settle E S1 v1 r2) fun S3 =>
    bd2 (rc0 S3 (v1 + (1 : Int32))) fun r4 S5 =>
    lt_ (v2 + r4) fun x6 =>
    lt_ (v4 + (1 : Int32)) fun x7 =>
    kh15 S5 v1 x6 x7)
def f_X1_ends_b15 (E : EN) (rc0 : ST → Int32 → Option (Int64 × ST)) (n : Nat) : ST → Int32 → Int64 → Int32 → Option (Int64 × ST) := fx_ (fun _ _ _ _ => none) (g_X1_ends_b15 E rc0) n
def b_X1_ends (E : EN) (rc0 : ST → Int32 → Option (Int64 × ST)) (S : ST) (a1 : Int32) : Option (Int64 × ST) :=
  (if a1 < (5 : Int32) then
    f_X1_ends_b15 E rc0 E.1 S a1 (0 : Int64) (0 : Int32)
  else
    bd2 (f_X1_endsNow E S) fun r8 S9 =>
    some (r8, S9))
def f_gends (E : EN) (d : Nat) : Nat → ST → Int32 → Option (Int64 × ST) := fx_ (fun _ _ _ => none) (fun rc k => b_X1_ends E (rc 0)) d
def f_X1_ends (E : EN) (d : Nat) : ST → Int32 → Option (Int64 × ST) := f_gends E d 0
/-! J6_bitCount_0f7a4 -/
def f_J6_bitCount_0f7a4 (E : EN) (S : ST) (a1 : Int32) : Option Int32 :=
  lt_ (a1 - ((us_ a1 (1 : Int32)) &&& (1431655765 : Int32))) fun x1 =>
  lt_ ((x1 &&& (858993459 : Int32)) + ((us_ x1 (2 : Int32)) &&& (858993459 : Int32))) fun x2 =>
  lt_ ((x2 + (us_ x2 (4 : Int32))) &&& (252645135 : Int32)) fun x3 =>
  lt_ (x3 + (us_ x3 (8 : Int32))) fun x4 =>
  lt_ (x4 + (us_ x4 (16 : Int32))) fun x5 =>
  some (x5 &&& (63 : Int32))
/-! X1_rights -/
def g_X1_rights_b25 (E : EN) (rc0 : ST → Int32 → Option (Int64 × ST)) (kh25 : ST → Int32 → Int64 → Int32 → Option (Int64 × ST)) (S : ST) (v1 : Int32) (v2 : Int64) (v4 : Int32) : Option (Int64 × ST) :=
  (if (2 : Int32) ≤ v4 then
    some (v2, S)
  else
    bd_ (f_X1_pass E S v1 v4) fun S1 =>
    bd_ (f_X1_wish E S1 v1) fun r2 =>
    bd_ (f_X1_settle E S1 v1 r2) fun S3 =>
    bd2 (rc0 S3 (v1 + (1 : Int32))) fun r4 S5 =>
    lt_ (v2 + r4) fun x6 =>
    lt_ (v4 + (1 : Int32)) fun x7 =>
    kh25 S5 v1 x6 x7)
def f_X1_rights_b25 (E : EN) (rc0 : ST → Int32 → Option (Int64 × ST)) (n : Nat) : ST → Int32 → Int64 → Int32 → Option (Int64 × ST) := fx_ (fun _ _ _ _ => none) (g_X1_rights_b25 E rc0) n
def b_X1_rights (E : EN) (rc0 : ST → Int32 → Option (Int64 × ST)) (S : ST) (a1 : Int32) : Option (Int64 × ST) :=
  (if a1 < (5 : Int32) then
    f_X1_rights_b25 E rc0 E.1 S a1 (0 : Int64) (0 : Int32)
  else
    bd_ (f_J6_bitCount_0f7a4 E S (gI S 16 0 6)) fun r8 =>
    bd_ (f_X1_together E S (5 : Int32)) fun r9 =>
    some (r8.toInt64 * r9, S))
def f_grights (E : EN) (d : Nat) : Nat → ST → Int32 → Option (Int64 × ST) := fx_ (fun _ _ _ => none) (fun rc k => b_X1_rights E (rc 0)) d
def f_X1_rights (E : EN) (d : Nat) : ST → Int32 → Option (Int64 × ST) := f_grights E d 0
/-! X1_best -/
def f_X1_best_b48 (E : EN) (rc0 : ST → Int32 → Option (Int64 × ST)) (rc1 : ST → Int32 → Option (Int64 × ST)) (kh15 : ST → Int32 → Int64 → Int32 → Option (Int64 × ST)) (S : ST) (v1 : Int32) (v2 : Int64) (v4 : Int32) : Option (Int64 × ST) :=
  lt_ (v4 + (1 : Int32)) fun x1 =>
  kh15 S v1 v2 x1
def g_X1_best_b15 (E : EN) (rc0 : ST → Int32 → Option (Int64 × ST)) (rc1 : ST → Int32 → Option (Int64 × ST)) (kh15 : ST → Int32 → Int64 → Int32 → Option (Int64 × ST)) (S : ST) (v1 : Int32) (v2 : Int64) (v4 : Int32) : Option (Int64 × ST) :=
  (if (2 : Int32) ≤ v4 then
    some (v2, S)
  else
    bd_ (f_X1_pass E S v1 v4) fun S2 =>
    bd_ (f_X1_together E S2 (v1 + (1 : Int32))) fun r3 =>
    (if r3 ≤ (0 : Int64) then
      f_X1_best_b48 E rc0 rc1 kh15 S2 v1 v2 v4
    else
      bd2 (rc1 S2 v1) fun r4 S5 =>
      lt_ (v2 + r4) fun x6 =>
      f_X1_best_b48 E rc0 rc1 kh15 S5 v1 x6 v4))
def f_X1_best_b15 (E : EN) (rc0 : ST → Int32 → Option (Int64 × ST)) (rc1 : ST → Int32 → Option (Int64 × ST)) (n : Nat) : ST → Int32 → Int64 → Int32 → Option (Int64 × ST) := fx_ (fun _ _ _ _ => none) (g_X1_best_b15 E rc0 rc1) n
def b_X1_best (E : EN) (rc0 : ST → Int32 → Option (Int64 × ST)) (rc1 : ST → Int32 → Option (Int64 × ST)) (S : ST) (a1 : Int32) : Option (Int64 × ST) :=
  (if a1 < (5 : Int32) then
    f_X1_best_b15 E rc0 rc1 E.1 S a1 (0 : Int64) (0 : Int32)
  else
    bd2 (f_X1_endsNow E S) fun r7 S8 =>
    some (r7, S8))
/-! X1_bestMove -/
def f_X1_bestMove_b67 (E : EN) (rc0 : ST → Int32 → Option (Int64 × ST)) (rc1 : ST → Int32 → Option (Int64 × ST)) (kh16 : ST → Int32 → Int64 → Int32 → Option (Int64 × ST)) (S : ST) (v1 : Int32) (v2 : Int64) (v4 : Int32) : Option (Int64 × ST) :=
  lt_ (v4 + (1 : Int32)) fun x1 =>
  kh16 S v1 v2 x1
def f_X1_bestMove_b48 (E : EN) (rc0 : ST → Int32 → Option (Int64 × ST)) (rc1 : ST → Int32 → Option (Int64 × ST)) (kh16 : ST → Int32 → Int64 → Int32 → Option (Int64 × ST)) (S : ST) (v1 : Int32) (v2 : Int64) (v4 : Int32) : Option (Int64 × ST) :=
  bd_ (f_X1_settle E S v1 v4) fun S2 =>
  bd2 (rc0 S2 (v1 + (1 : Int32))) fun r3 S4 =>
  lt_ (mxL v2 r3) fun x5 =>
  f_X1_bestMove_b67 E rc0 rc1 kh16 S4 v1 x5 v4
def g_X1_bestMove_b16 (E : EN) (rc0 : ST → Int32 → Option (Int64 × ST)) (rc1 : ST → Int32 → Option (Int64 × ST)) (kh16 : ST → Int32 → Int64 → Int32 → Option (Int64 × ST)) (S : ST) (v1 : Int32) (v2 : Int64) (v4 : Int32) : Option (Int64 × ST) :=
  (if (1 : Int32) < v4 then
    some (v2, S)
  else
    (if v4 = 0 then
      f_X1_bestMove_b48 E rc0 rc1 kh16 S v1 v2 v4
    else
      ck_ (ib_ v1 6) <|
      bd_ (f_X6_held E S ((gI S 18 0 v1.toNatClampNeg) + v4)) fun r7 =>
      (if r7 = (gI S 18 0 v1.toNatClampNeg) then
        f_X1_bestMove_b67 E rc0 rc1 kh16 S v1 v2 v4
      else
        f_X1_bestMove_b48 E rc0 rc1 kh16 S v1 v2 v4)))
def f_X1_bestMove_b16 (E : EN) (rc0 : ST → Int32 → Option (Int64 × ST)) (rc1 : ST → Int32 → Option (Int64 × ST)) (n : Nat) : ST → Int32 → Int64 → Int32 → Option (Int64 × ST) := fx_ (fun _ _ _ _ => none) (g_X1_bestMove_b16 E rc0 rc1) n
def b_X1_bestMove (E : EN) (rc0 : ST → Int32 → Option (Int64 × ST)) (rc1 : ST → Int32 → Option (Int64 × ST)) (S : ST) (a1 : Int32) : Option (Int64 × ST) :=
  (if a1 < 0 then
    some ((0 : Int64), S)
  else
    (if a1 < (5 : Int32) then
      f_X1_bestMove_b16 E rc0 rc1 E.1 S a1 (0 : Int64) (-1 : Int32)
    else
      some ((0 : Int64), S)))
def f_gbest (E : EN) (d : Nat) : Nat → ST → Int32 → Option (Int64 × ST) := fx_ (fun _ _ _ => none) (fun rc k => if k = 0 then b_X1_best E (rc 0) (rc 1) else b_X1_bestMove E (rc 0) (rc 1)) d
def f_X1_best (E : EN) (d : Nat) : ST → Int32 → Option (Int64 × ST) := f_gbest E d 0
def f_X1_bestMove (E : EN) (d : Nat) : ST → Int32 → Option (Int64 × ST) := f_gbest E d 1
/-! X2_together -/
def g_X2_together_b4 (E : EN) (i0 : Nat) (kh4 : ST → Int32 → Int32 → Option Int32) (S : ST) (v1 : Int32) (v2 : Int32) : Option Int32 :=
  (if (5 : Int32) ≤ v2 then
    some v1
  else
    ck_ (ib_ v2 5) <|
    lt_ (v1 + (gI S 21 i0 v2.toNatClampNeg)) fun x2 =>
    lt_ (v2 + (1 : Int32)) fun x3 =>
    kh4 S x2 x3)
def f_X2_together_b4 (E : EN) (i0 : Nat) (n : Nat) : ST → Int32 → Int32 → Option Int32 := fx_ (fun _ _ _ => none) (g_X2_together_b4 E i0) n
def f_X2_together (E : EN) (i0 : Nat) (S : ST)  : Option Int32 :=
  f_X2_together_b4 E i0 E.1 S (0 : Int32) (0 : Int32)
/-! X6_common -/
def g_X6_common_b9 (E : EN) (kh9 : ST → Int64 → Int64 → Int32 → Option Int64) (S : ST) (v4 : Int64) (v6 : Int64) (v8 : Int32) : Option Int64 :=
  (if (100 : Int32) ≤ v8 then
    some v4
  else
    (if v6 = (0 : Int64) then
      some v4
    else
      ck_ (!decide (v6 = 0)) <|
      lt_ (rmL v4 v6) fun x2 =>
      lt_ (v8 + (1 : Int32)) fun x3 =>
      kh9 S v6 x2 x3))
def f_X6_common_b9 (E : EN) (n : Nat) : ST → Int64 → Int64 → Int32 → Option Int64 := fx_ (fun _ _ _ _ => none) (g_X6_common_b9 E) n
def f_X6_common (E : EN) (S : ST) (a1 : Int64) (a2 : Int64) : Option Int64 :=
  f_X6_common_b9 E E.1 S a1 a2 (0 : Int32)
/-! X2_takes -/
def g_X2_takes_b60 (E : EN) (i0 : Nat) (kh60 : ST → Nat → Int64 → Int32 → Option (Int32 × ST)) (S : ST) (v1 : Nat) (v2 : Int64) (v6 : Int32) : Option (Int32 × ST) :=
  (if (5 : Int32) ≤ v6 then
    some ((1 : Int32), S)
  else
    ck_ (ib_ v6 5) <|
    ck_ (!decide (v2 = 0)) <|
    lt_ (sI S 21 i0 v6.toNatClampNeg (((gL S 28 v1 v6.toNatClampNeg) / v2).toInt32)) fun S3 =>
    lt_ (v6 + (1 : Int32)) fun x4 =>
    kh60 S3 v1 v2 x4)
def f_X2_takes_b60 (E : EN) (i0 : Nat) (n : Nat) : ST → Nat → Int64 → Int32 → Option (Int32 × ST) := fx_ (fun _ _ _ _ => none) (g_X2_takes_b60 E i0) n
def f_X2_takes_b38 (E : EN) (i0 : Nat) (S : ST) (v1 : Nat) (v2 : Int64) (v4 : Int64) : Option (Int32 × ST) :=
  (if v2 = (0 : Int64) then
    some ((0 : Int32), S)
  else
    ck_ (!decide (v2 = 0)) <|
    (if (v4 / v2) ≤ (9999 : Int64) then
      f_X2_takes_b60 E i0 E.1 S v1 v2 (0 : Int32)
    else
      some ((0 : Int32), S)))
def g_X2_takes_b8 (E : EN) (i0 : Nat) (kh8 : ST → Nat → Int64 → Int64 → Int32 → Option (Int32 × ST)) (S : ST) (v1 : Nat) (v2 : Int64) (v4 : Int64) (v6 : Int32) : Option (Int32 × ST) :=
  (if (5 : Int32) ≤ v6 then
    f_X2_takes_b38 E i0 S v1 v2 v4
  else
    ck_ (ib_ v6 5) <|
    bd_ (f_X6_common E S v2 (gL S 28 v1 v6.toNatClampNeg)) fun r7 =>
    lt_ (v4 + (gL S 28 v1 v6.toNatClampNeg)) fun x8 =>
    lt_ (v6 + (1 : Int32)) fun x9 =>
    kh8 S v1 r7 x8 x9)
def f_X2_takes_b8 (E : EN) (i0 : Nat) (n : Nat) : ST → Nat → Int64 → Int64 → Int32 → Option (Int32 × ST) := fx_ (fun _ _ _ _ _ => none) (g_X2_takes_b8 E i0) n
def f_X2_takes (E : EN) (i0 : Nat) (S : ST) (a1 : Nat) : Option (Int32 × ST) :=
  f_X2_takes_b8 E i0 E.1 S a1 (0 : Int64) (0 : Int64) (0 : Int32)
/-! X2_keep -/
def f_X2_keep (E : EN) (i0 : Nat) (S : ST)  : Option ST :=
  lt_ (sI S 20 i0 5 (gI S 20 i0 3)) fun S1 =>
  lt_ (aI S1 22 i0 (va_cpy (S1.1 21 i0) (S1.1 22 i0) 0 0 5)) fun S4 =>
  some S4
/-! X2_lay -/
def f_X2_lay (E : EN) (i0 : Nat) (S : ST)  : Option ST :=
  lt_ (sI S 20 i0 3 (gI S 20 i0 5)) fun S1 =>
  lt_ (aI S1 21 i0 (va_cpy (S1.1 22 i0) (S1.1 21 i0) 0 0 5)) fun S4 =>
  some S4
/-! X3_isDigit -/
def f_X3_isDigit (E : EN) (S : ST) (a1 : Int32) : Option Int32 :=
  (if a1 < (48 : Int32) then
    some (0 : Int32)
  else
    (if (57 : Int32) < a1 then
      some (0 : Int32)
    else
      some (1 : Int32)))
/-! X3_isLetter -/
def f_X3_isLetter (E : EN) (S : ST) (a1 : Int32) : Option Int32 :=
  (if a1 < (97 : Int32) then
    some (0 : Int32)
  else
    (if (122 : Int32) < a1 then
      some (0 : Int32)
    else
      some (1 : Int32)))
/-! X3_isSign -/
def f_X3_isSign_b48 (E : EN) (S : ST)  : Option Int32 :=
  some (1 : Int32)
def f_X3_isSign (E : EN) (S : ST) (a1 : Int32) : Option Int32 :=
  (if a1 = (40 : Int32) then
    f_X3_isSign_b48 E S
  else
    (if a1 = (41 : Int32) then
      f_X3_isSign_b48 E S
    else
      (if a1 = (59 : Int32) then
        f_X3_isSign_b48 E S
      else
        (if a1 = (43 : Int32) then
          f_X3_isSign_b48 E S
        else
          (if a1 = (45 : Int32) then
            f_X3_isSign_b48 E S
          else
            (if a1 = (42 : Int32) then
              f_X3_isSign_b48 E S
            else
              (if a1 = (60 : Int32) then
                f_X3_isSign_b48 E S
              else
                (if a1 = (61 : Int32) then
                  f_X3_isSign_b48 E S
                else
                  some (0 : Int32)))))))))
/-! X3_number -/
def f_X3_number_b74 (E : EN) (S : ST) (v1 : Int32) (v2 : Int32) : Option (Int32 × ST) :=
  (if ((gI S 8 0 2) - v1) ≤ (4 : Int32) then
    some ((1000 : Int32) + v2, S)
  else
    some ((-1 : Int32), S))
def f_X3_number_b61 (E : EN) (kh7 : ST → Int32 → Int32 → Option (Int32 × ST)) (S : ST) (v1 : Int32) (v2 : Int32) : Option (Int32 × ST) :=
  lt_ (sI S 8 0 2 ((gI S 8 0 2) + (1 : Int32))) fun S1 =>
  kh7 S1 v1 v2
def g_X3_number_b7 (E : EN) (kh7 : ST → Int32 → Int32 → Option (Int32 × ST)) (S : ST) (v1 : Int32) (v2 : Int32) : Option (Int32 × ST) :=
  (if (gI S 8 0 1) ≤ (gI S 8 0 2) then
    f_X3_number_b74 E S v1 v2
  else
    ck_ (ib_ (gI S 8 0 2) 160) <|
    bd_ (f_X3_isDigit E S (gI S 5 0 (gI S 8 0 2).toNatClampNeg)) fun r3 =>
    (if r3 = 0 then
      f_X3_number_b74 E S v1 v2
    else
      (if (4 : Int32) ≤ ((gI S 8 0 2) - v1) then
        f_X3_number_b61 E kh7 S v1 v2
      else
        lt_ (((v2 * (10 : Int32)) + (gI S 5 0 (gI S 8 0 2).toNatClampNeg)) - (48 : Int32)) fun x4 =>
        f_X3_number_b61 E kh7 S v1 x4)))
def f_X3_number_b7 (E : EN) (n : Nat) : ST → Int32 → Int32 → Option (Int32 × ST) := fx_ (fun _ _ _ => none) (g_X3_number_b7 E) n
def f_X3_number (E : EN) (S : ST)  : Option (Int32 × ST) :=
  lt_ (gI S 8 0 2) fun x5 =>
  f_X3_number_b7 E E.1 S x5 (0 : Int32)
/-! J0_isLatin1_aae02 -/
def f_J0_isLatin1_aae02 (E : EN) (i0 : Nat) (S : ST)  : Option Int32 :=
  (if (1 : Int32) = 0 then
    some (0 : Int32)
  else
    (if (0 : Int32) = 0 then
      some (1 : Int32)
    else
      some (0 : Int32)))
/-! J3_checkIndex_8e157 -/
def f_J3_checkIndex_8e157 (E : EN) (S : ST) (a1 : Int32) (a2 : Int32) : Option Int32 :=
  (if a1 < 0 then
    none
  else
    (if a1 < a2 then
      some a1
    else
      none))
/-! J0_checkIndex_df160 -/
def f_J0_checkIndex_df160 (E : EN) (S : ST) (a1 : Int32) (a2 : Int32) : Option Unit :=
  bd_ (f_J3_checkIndex_8e157 E S a1 a2) fun r2 =>
  some ()
/-! J1_charAt_3b067 -/
def f_J1_charAt_3b067 (E : EN) (S : ST) (a1 : Nat) (a2 : Int32) : Option Int32 :=
  bd_ (f_J0_checkIndex_df160 E S a2 (tl_ a1)) fun u1 =>
  ck_ (ib_ a2 (txLen.getD a1 0)) <|
  ck_ (ochar_ (ch_ ((tb_ a1 a2.toNatClampNeg) &&& (255 : Int32)))) <|
  some (ch_ ((tb_ a1 a2.toNatClampNeg) &&& (255 : Int32)))
/-! J0_charAt_5068e -/
def f_J0_charAt_5068e (E : EN) (i0 : Nat) (S : ST) (a1 : Int32) : Option Int32 :=
  bd_ (f_J0_isLatin1_aae02 E i0 S) fun r1 =>
  (if r1 = 0 then
    none
  else
    bd_ (f_J1_charAt_3b067 E S i0 a1) fun r2 =>
    ck_ (ochar_ r2) <|
    some r2)
/-! J0_coder_7d493 -/
def f_J0_coder_7d493 (E : EN) (i0 : Nat) (S : ST)  : Option Int32 :=
  (if (1 : Int32) = 0 then
    some (1 : Int32)
  else
    some (0 : Int32))
/-! J0_length_8abf5 -/
def f_J0_length_8abf5 (E : EN) (i0 : Nat) (S : ST)  : Option Int32 :=
  bd_ (f_J0_coder_7d493 E i0 S) fun r1 =>
  some ((tl_ i0) >>> (r1 &&& 31))
/-! X3_spelt -/
def f_X3_spelt_b97 (E : EN) (kh12 : ST → Int32 → Int32 → Int32 → Int32 → Int32 → Option Int32) (S : ST) (v1 : Int32) (v2 : Int32) (v3 : Int32) (v4 : Int32) (v5 : Int32) : Option Int32 :=
  lt_ (v5 + (1 : Int32)) fun x1 =>
  kh12 S v1 v2 v3 v4 x1
def f_X3_spelt_b94 (E : EN) (kh12 : ST → Int32 → Int32 → Int32 → Int32 → Int32 → Option Int32) (S : ST) (v1 : Int32) (v2 : Int32) (v3 : Int32) (v5 : Int32) : Option Int32 :=
  f_X3_spelt_b97 E kh12 S v1 v2 v3 (0 : Int32) v5
def f_X3_spelt_b53 (E : EN) (kh12 : ST → Int32 → Int32 → Int32 → Int32 → Int32 → Option Int32) (S : ST) (v1 : Int32) (v2 : Int32) (v5 : Int32) : Option Int32 :=
  lt_ (v2 + (1 : Int32)) fun x2 =>
  f_X3_spelt_b97 E kh12 S v1 x2 v1 (1 : Int32) v5
def g_X3_spelt_b12 (E : EN) (kh12 : ST → Int32 → Int32 → Int32 → Int32 → Int32 → Option Int32) (S : ST) (v1 : Int32) (v2 : Int32) (v3 : Int32) (v4 : Int32) (v5 : Int32) : Option Int32 :=
  bd_ (f_J0_length_8abf5 E 1 S) fun r3 =>
  (if r3 ≤ v5 then
    some (-1 : Int32)
  else
    bd_ (f_J0_charAt_5068e E 1 S v5) fun r4 =>
    (if r4 = (32 : Int32) then
      (if v4 = 0 then
        f_X3_spelt_b53 E kh12 S v1 v2 v5
      else
        (if v3 = (gI S 8 0 2) then
          some v2
        else
          f_X3_spelt_b53 E kh12 S v1 v2 v5))
    else
      (if v4 = 0 then
        f_X3_spelt_b94 E kh12 S v1 v2 v3 v5
      else
        (if (gI S 8 0 2) ≤ v3 then
          f_X3_spelt_b94 E kh12 S v1 v2 v3 v5
        else
          ck_ (ib_ v3 160) <|
          (if (gI S 5 0 v3.toNatClampNeg) = r4 then
            lt_ (v3 + (1 : Int32)) fun x6 =>
            f_X3_spelt_b97 E kh12 S v1 v2 x6 v4 v5
          else
            f_X3_spelt_b94 E kh12 S v1 v2 v3 v5)))))
def f_X3_spelt_b12 (E : EN) (n : Nat) : ST → Int32 → Int32 → Int32 → Int32 → Int32 → Option Int32 := fx_ (fun _ _ _ _ _ _ => none) (g_X3_spelt_b12 E) n
def f_X3_spelt (E : EN) (S : ST) (a1 : Int32) : Option Int32 :=
  f_X3_spelt_b12 E E.1 S a1 (256 : Int32) a1 (1 : Int32) (0 : Int32)
/-! X3_word -/
def f_X3_word_b44 (E : EN) (S : ST) (v1 : Int32) : Option (Int32 × ST) :=
  bd_ (f_X3_spelt E S v1) fun r1 =>
  some (r1, S)
def g_X3_word_b5 (E : EN) (kh5 : ST → Int32 → Option (Int32 × ST)) (S : ST) (v1 : Int32) : Option (Int32 × ST) :=
  (if (gI S 8 0 1) ≤ (gI S 8 0 2) then
    f_X3_word_b44 E S v1
  else
    ck_ (ib_ (gI S 8 0 2) 160) <|
    bd_ (f_X3_isLetter E S (gI S 5 0 (gI S 8 0 2).toNatClampNeg)) fun r3 =>
    (if r3 = 0 then
      f_X3_word_b44 E S v1
    else
      lt_ (sI S 8 0 2 ((gI S 8 0 2) + (1 : Int32))) fun S4 =>
      kh5 S4 v1))
def f_X3_word_b5 (E : EN) (n : Nat) : ST → Int32 → Option (Int32 × ST) := fx_ (fun _ _ => none) (g_X3_word_b5 E) n
def f_X3_word (E : EN) (S : ST)  : Option (Int32 × ST) :=
  lt_ (gI S 8 0 2) fun x5 =>
  f_X3_word_b5 E E.1 S x5
/-! X3_advance -/
def f_X3_advance_b169 (E : EN) (S : ST) (t0 : Int32) : Option ST :=
  lt_ (sI S 8 0 3 t0) fun S1 =>
  lt_ (sI S1 8 0 2 ((gI S1 8 0 2) + (1 : Int32))) fun S2 =>
  some S2
def f_X3_advance_b61 (E : EN) (S : ST)  : Option ST :=
  lt_ (sI S 8 0 4 (gI S 8 0 2)) fun S3 =>
  (if (gI S3 8 0 2) < (gI S3 8 0 1) then
    ck_ (ib_ (gI S3 8 0 2) 160) <|
    bd_ (f_X3_isLetter E S3 (gI S3 5 0 (gI S3 8 0 2).toNatClampNeg)) fun r5 =>
    (if r5 = 0 then
      bd_ (f_X3_isDigit E S3 (gI S3 5 0 (gI S3 8 0 2).toNatClampNeg)) fun r6 =>
      (if r6 = 0 then
        bd_ (f_X3_isSign E S3 (gI S3 5 0 (gI S3 8 0 2).toNatClampNeg)) fun r7 =>
        (if r7 = 0 then
          f_X3_advance_b169 E S3 (-1 : Int32)
        else
          f_X3_advance_b169 E S3 (gI S3 5 0 (gI S3 8 0 2).toNatClampNeg))
      else
        bd2 (f_X3_number E S3) fun r8 S9 =>
        lt_ (sI S9 8 0 3 r8) fun S10 =>
        some S10)
    else
      bd2 (f_X3_word E S3) fun r11 S12 =>
      lt_ (sI S12 8 0 3 r11) fun S13 =>
      some S13)
  else
    lt_ (sI S3 8 0 3 (0 : Int32)) fun S14 =>
    some S14)
def f_X3_advance_b48 (E : EN) (kh9 : ST → Option ST) (S : ST)  : Option ST :=
  lt_ (sI S 8 0 2 ((gI S 8 0 2) + (1 : Int32))) fun S15 =>
  kh9 S15
def g_X3_advance_b9 (E : EN) (kh9 : ST → Option ST) (S : ST)  : Option ST :=
  (if (gI S 8 0 1) ≤ (gI S 8 0 2) then
    f_X3_advance_b61 E S
  else
    ck_ (ib_ (gI S 8 0 2) 160) <|
    (if (gI S 5 0 (gI S 8 0 2).toNatClampNeg) = (32 : Int32) then
      f_X3_advance_b48 E kh9 S
    else
      (if (gI S 5 0 (gI S 8 0 2).toNatClampNeg) = (10 : Int32) then
        f_X3_advance_b48 E kh9 S
      else
        f_X3_advance_b61 E S)))
def f_X3_advance_b9 (E : EN) (n : Nat) : ST → Option ST := fx_ (fun _ => none) (g_X3_advance_b9 E) n
def f_X3_advance (E : EN) (S : ST)  : Option ST :=
  (if (gI S 8 0 5) = (-1 : Int32) then
    f_X3_advance_b9 E E.1 S
  else
    some S)
/-! X3_emit -/
def f_X3_emit (E : EN) (S : ST) (a1 : Int32) : Option ST :=
  (if (160 : Int32) ≤ (gI S 8 0 8) then
    some S
  else
    ck_ (ib_ (gI S 8 0 8) 160) <|
    lt_ (sI S 9 0 (gI S 8 0 8).toNatClampNeg a1) fun S2 =>
    lt_ (sI S2 8 0 8 ((gI S2 8 0 8) + (1 : Int32))) fun S3 =>
    some S3)
/-! X3_refuse -/
def f_X3_refuse_b16 (E : EN) (S : ST)  : Option ST :=
  lt_ (sI S 8 0 3 (-1 : Int32)) fun S1 =>
  some S1
def f_X3_refuse (E : EN) (S : ST)  : Option ST :=
  (if (gI S 8 0 5) = (-1 : Int32) then
    lt_ (sI S 8 0 5 (gI S 8 0 4)) fun S2 =>
    f_X3_refuse_b16 E S2
  else
    f_X3_refuse_b16 E S)
/-! X3_opens -/
def f_X3_opens (E : EN) (S : ST)  : Option (Int32 × ST) :=
  (if (gI S 8 0 6) < (5 : Int32) then
    lt_ (sI S 8 0 6 ((gI S 8 0 6) + (1 : Int32))) fun S1 =>
    bd_ (f_X3_advance E S1) fun S2 =>
    some ((1 : Int32), S2)
  else
    bd_ (f_X3_refuse E S) fun S3 =>
    some ((0 : Int32), S3))
/-! X3_take -/
def f_X3_take (E : EN) (S : ST) (a1 : Int32) : Option ST :=
  (if (gI S 8 0 3) = a1 then
    bd_ (f_X3_advance E S) fun S2 =>
    some S2
  else
    bd_ (f_X3_refuse E S) fun S1 =>
    some S1)
/-! X3_readOr -/
def g_X3_readOr_b6 (E : EN) (rc0 : ST → Option ST) (rc1 : ST → Option ST) (rc2 : ST → Option ST) (rc3 : ST → Option ST) (rc4 : ST → Option ST) (rc5 : ST → Option ST) (kh6 : ST → Int32 → Option ST) (S : ST) (v1 : Int32) : Option ST :=
  (if (160 : Int32) ≤ v1 then
    some S
  else
    (if (gI S 8 0 3) = (259 : Int32) then
      bd_ (f_X3_advance E S) fun S1 =>
      bd_ (rc1 S1) fun S2 =>
      bd_ (f_X3_emit E S2 (259 : Int32)) fun S3 =>
      lt_ (v1 + (1 : Int32)) fun x4 =>
      kh6 S3 x4
    else
      some S))
def f_X3_readOr_b6 (E : EN) (rc0 : ST → Option ST) (rc1 : ST → Option ST) (rc2 : ST → Option ST) (rc3 : ST → Option ST) (rc4 : ST → Option ST) (rc5 : ST → Option ST) (n : Nat) : ST → Int32 → Option ST := fx_ (fun _ _ => none) (g_X3_readOr_b6 E rc0 rc1 rc2 rc3 rc4 rc5) n
def b_X3_readOr (E : EN) (rc0 : ST → Option ST) (rc1 : ST → Option ST) (rc2 : ST → Option ST) (rc3 : ST → Option ST) (rc4 : ST → Option ST) (rc5 : ST → Option ST) (S : ST)  : Option ST :=
  bd_ (rc1 S) fun S5 =>
  f_X3_readOr_b6 E rc0 rc1 rc2 rc3 rc4 rc5 E.1 S5 (0 : Int32)
/-! X3_readAnd -/
def g_X3_readAnd_b6 (E : EN) (rc0 : ST → Option ST) (rc1 : ST → Option ST) (rc2 : ST → Option ST) (rc3 : ST → Option ST) (rc4 : ST → Option ST) (rc5 : ST → Option ST) (kh6 : ST → Int32 → Option ST) (S : ST) (v1 : Int32) : Option ST :=
  (if (160 : Int32) ≤ v1 then
    some S
  else
    (if (gI S 8 0 3) = (260 : Int32) then
      bd_ (f_X3_advance E S) fun S1 =>
      bd_ (rc2 S1) fun S2 =>
      bd_ (f_X3_emit E S2 (260 : Int32)) fun S3 =>
      lt_ (v1 + (1 : Int32)) fun x4 =>
      kh6 S3 x4
    else
      some S))
def f_X3_readAnd_b6 (E : EN) (rc0 : ST → Option ST) (rc1 : ST → Option ST) (rc2 : ST → Option ST) (rc3 : ST → Option ST) (rc4 : ST → Option ST) (rc5 : ST → Option ST) (n : Nat) : ST → Int32 → Option ST := fx_ (fun _ _ => none) (g_X3_readAnd_b6 E rc0 rc1 rc2 rc3 rc4 rc5) n
def b_X3_readAnd (E : EN) (rc0 : ST → Option ST) (rc1 : ST → Option ST) (rc2 : ST → Option ST) (rc3 : ST → Option ST) (rc4 : ST → Option ST) (rc5 : ST → Option ST) (S : ST)  : Option ST :=
  bd_ (rc2 S) fun S5 =>
  f_X3_readAnd_b6 E rc0 rc1 rc2 rc3 rc4 rc5 E.1 S5 (0 : Int32)
/-! X3_readNot -/
def f_X3_readNot_b61 (E : EN) (rc0 : ST → Option ST) (rc1 : ST → Option ST) (rc2 : ST → Option ST) (rc3 : ST → Option ST) (rc4 : ST → Option ST) (rc5 : ST → Option ST) (S : ST)  : Option ST :=
  lt_ (gI S 8 0 3) fun x1 =>
  bd_ (f_X3_advance E S) fun S2 =>
  bd_ (rc3 S2) fun S3 =>
  bd_ (f_X3_emit E S3 x1) fun S4 =>
  some S4
def b_X3_readNot (E : EN) (rc0 : ST → Option ST) (rc1 : ST → Option ST) (rc2 : ST → Option ST) (rc3 : ST → Option ST) (rc4 : ST → Option ST) (rc5 : ST → Option ST) (S : ST)  : Option ST :=
  (if (gI S 8 0 3) = (261 : Int32) then
    bd2 (f_X3_opens E S) fun r6 S7 =>
    (if r6 = 0 then
      some S7
    else
      bd_ (rc2 S7) fun S8 =>
      lt_ (sI S8 8 0 6 ((gI S8 8 0 6) - (1 : Int32))) fun S9 =>
      bd_ (f_X3_emit E S9 (261 : Int32)) fun S10 =>
      some S10)
  else
    bd_ (rc3 S) fun S5 =>
    (if (gI S5 8 0 3) = (60 : Int32) then
      f_X3_readNot_b61 E rc0 rc1 rc2 rc3 rc4 rc5 S5
    else
      (if (gI S5 8 0 3) = (61 : Int32) then
        f_X3_readNot_b61 E rc0 rc1 rc2 rc3 rc4 rc5 S5
      else
        some S5)))
/-! X3_readSum -/
def f_X3_readSum_b31 (E : EN) (rc0 : ST → Option ST) (rc1 : ST → Option ST) (rc2 : ST → Option ST) (rc3 : ST → Option ST) (rc4 : ST → Option ST) (rc5 : ST → Option ST) (kh6 : ST → Int32 → Option ST) (S : ST) (v1 : Int32) : Option ST :=
  lt_ (gI S 8 0 3) fun x1 =>
  bd_ (f_X3_advance E S) fun S2 =>
  bd_ (rc4 S2) fun S3 =>
  bd_ (f_X3_emit E S3 x1) fun S4 =>
  lt_ (v1 + (1 : Int32)) fun x5 =>
  kh6 S4 x5
def g_X3_readSum_b6 (E : EN) (rc0 : ST → Option ST) (rc1 : ST → Option ST) (rc2 : ST → Option ST) (rc3 : ST → Option ST) (rc4 : ST → Option ST) (rc5 : ST → Option ST) (kh6 : ST → Int32 → Option ST) (S : ST) (v1 : Int32) : Option ST :=
  (if (160 : Int32) ≤ v1 then
    some S
  else
    (if (gI S 8 0 3) = (43 : Int32) then
      f_X3_readSum_b31 E rc0 rc1 rc2 rc3 rc4 rc5 kh6 S v1
    else
      (if (gI S 8 0 3) = (45 : Int32) then
        f_X3_readSum_b31 E rc0 rc1 rc2 rc3 rc4 rc5 kh6 S v1
      else
        some S)))
def f_X3_readSum_b6 (E : EN) (rc0 : ST → Option ST) (rc1 : ST → Option ST) (rc2 : ST → Option ST) (rc3 : ST → Option ST) (rc4 : ST → Option ST) (rc5 : ST → Option ST) (n : Nat) : ST → Int32 → Option ST := fx_ (fun _ _ => none) (g_X3_readSum_b6 E rc0 rc1 rc2 rc3 rc4 rc5) n
def b_X3_readSum (E : EN) (rc0 : ST → Option ST) (rc1 : ST → Option ST) (rc2 : ST → Option ST) (rc3 : ST → Option ST) (rc4 : ST → Option ST) (rc5 : ST → Option ST) (S : ST)  : Option ST :=
  bd_ (rc4 S) fun S6 =>
  f_X3_readSum_b6 E rc0 rc1 rc2 rc3 rc4 rc5 E.1 S6 (0 : Int32)
/-! X3_readTerm -/
def g_X3_readTerm_b6 (E : EN) (rc0 : ST → Option ST) (rc1 : ST → Option ST) (rc2 : ST → Option ST) (rc3 : ST → Option ST) (rc4 : ST → Option ST) (rc5 : ST → Option ST) (kh6 : ST → Int32 → Option ST) (S : ST) (v1 : Int32) : Option ST :=
  (if (160 : Int32) ≤ v1 then
    some S
  else
    (if (gI S 8 0 3) = (42 : Int32) then
      bd_ (f_X3_advance E S) fun S1 =>
      bd_ (rc5 S1) fun S2 =>
      bd_ (f_X3_emit E S2 (42 : Int32)) fun S3 =>
      lt_ (v1 + (1 : Int32)) fun x4 =>
      kh6 S3 x4
    else
      some S))
def f_X3_readTerm_b6 (E : EN) (rc0 : ST → Option ST) (rc1 : ST → Option ST) (rc2 : ST → Option ST) (rc3 : ST → Option ST) (rc4 : ST → Option ST) (rc5 : ST → Option ST) (n : Nat) : ST → Int32 → Option ST := fx_ (fun _ _ => none) (g_X3_readTerm_b6 E rc0 rc1 rc2 rc3 rc4 rc5) n
def b_X3_readTerm (E : EN) (rc0 : ST → Option ST) (rc1 : ST → Option ST) (rc2 : ST → Option ST) (rc3 : ST → Option ST) (rc4 : ST → Option ST) (rc5 : ST → Option ST) (S : ST)  : Option ST :=
  bd_ (rc5 S) fun S5 =>
  f_X3_readTerm_b6 E rc0 rc1 rc2 rc3 rc4 rc5 E.1 S5 (0 : Int32)
/-! X3_readOne -/
def b_X3_readOne (E : EN) (rc0 : ST → Option ST) (rc1 : ST → Option ST) (rc2 : ST → Option ST) (rc3 : ST → Option ST) (rc4 : ST → Option ST) (rc5 : ST → Option ST) (S : ST)  : Option ST :=
  (if (gI S 8 0 3) < (262 : Int32) then
    (if (gI S 8 0 3) = (45 : Int32) then
      bd2 (f_X3_opens E S) fun r7 S8 =>
      (if r7 = 0 then
        some S8
      else
        bd_ (rc5 S8) fun S9 =>
        lt_ (sI S9 8 0 6 ((gI S9 8 0 6) - (1 : Int32))) fun S10 =>
        bd_ (f_X3_emit E S10 (1 : Int32)) fun S11 =>
        some S11)
    else
      (if (gI S 8 0 3) = (40 : Int32) then
        bd2 (f_X3_opens E S) fun r2 S3 =>
        (if r2 = 0 then
          some S3
        else
          bd_ (rc0 S3) fun S4 =>
          bd_ (f_X3_take E S4 (41 : Int32)) fun S5 =>
          lt_ (sI S5 8 0 6 ((gI S5 8 0 6) - (1 : Int32))) fun S6 =>
          some S6)
      else
        bd_ (f_X3_refuse E S) fun S1 =>
        some S1))
  else
    bd_ (f_X3_emit E S (gI S 8 0 3)) fun S12 =>
    bd_ (f_X3_advance E S12) fun S13 =>
    some S13)
def f_gread (E : EN) (d : Nat) : Nat → ST → Option ST := fx_ (fun _ _ => none) (fun rc k => if k = 0 then b_X3_readOr E (rc 0) (rc 1) (rc 2) (rc 3) (rc 4) (rc 5) else if k = 1 then b_X3_readAnd E (rc 0) (rc 1) (rc 2) (rc 3) (rc 4) (rc 5) else if k = 2 then b_X3_readNot E (rc 0) (rc 1) (rc 2) (rc 3) (rc 4) (rc 5) else if k = 3 then b_X3_readSum E (rc 0) (rc 1) (rc 2) (rc 3) (rc 4) (rc 5) else if k = 4 then b_X3_readTerm E (rc 0) (rc 1) (rc 2) (rc 3) (rc 4) (rc 5) else b_X3_readOne E (rc 0) (rc 1) (rc 2) (rc 3) (rc 4) (rc 5)) d
def f_X3_readOr (E : EN) (d : Nat) : ST → Option ST := f_gread E d 0
def f_X3_readAnd (E : EN) (d : Nat) : ST → Option ST := f_gread E d 1
def f_X3_readNot (E : EN) (d : Nat) : ST → Option ST := f_gread E d 2
def f_X3_readSum (E : EN) (d : Nat) : ST → Option ST := f_gread E d 3
def f_X3_readTerm (E : EN) (d : Nat) : ST → Option ST := f_gread E d 4
def f_X3_readOne (E : EN) (d : Nat) : ST → Option ST := f_gread E d 5
/-! X3_read -/
def f_X3_read_b79 (E : EN) (S : ST)  : Option (Int32 × ST) :=
  lt_ (sI S 14 0 3 (gI S 8 0 8)) fun S1 =>
  bd_ (f_X3_take E S1 (0 : Int32)) fun S2 =>
  some (gI S2 8 0 5, S2)
def g_X3_read_b39 (E : EN) (kh39 : ST → Int32 → Option (Int32 × ST)) (S : ST) (v2 : Int32) : Option (Int32 × ST) :=
  (if (3 : Int32) ≤ v2 then
    f_X3_read_b79 E S
  else
    bd_ (f_X3_take E S ((256 : Int32) + v2)) fun S3 =>
    ck_ (ib_ v2 4) <|
    lt_ (sI S3 14 0 v2.toNatClampNeg (gI S3 8 0 8)) fun S5 =>
    bd_ (f_X3_readOr E 40 S5) fun S6 =>
    bd_ (f_X3_take E S6 (59 : Int32)) fun S7 =>
    lt_ (v2 + (1 : Int32)) fun x8 =>
    kh39 S7 x8)
def f_X3_read_b39 (E : EN) (n : Nat) : ST → Int32 → Option (Int32 × ST) := fx_ (fun _ _ => none) (g_X3_read_b39 E) n
def f_X3_read (E : EN) (S : ST) (a1 : Int32) : Option (Int32 × ST) :=
  lt_ (sI S 8 0 1 (mnI a1 (160 : Int32))) fun S9 =>
  lt_ (sI S9 8 0 2 (0 : Int32)) fun S10 =>
  lt_ (sI S10 8 0 5 (-1 : Int32)) fun S11 =>
  lt_ (sI S11 8 0 6 (0 : Int32)) fun S12 =>
  lt_ (sI S12 8 0 8 (0 : Int32)) fun S13 =>
  bd_ (f_X3_advance E S13) fun S14 =>
  f_X3_read_b39 E E.1 S14 (0 : Int32)
/-! J7_fill_53178 -/
def g_J7_fill_53178_b5 (E : EN) (kh5 : ST → Nat → Int32 → Int32 → Int32 → Option ST) (S : ST) (v0 : Nat) (v1 : Int32) (v2 : Int32) (v3 : Int32) : Option ST :=
  (if v3 ≤ v2 then
    some S
  else
    ck_ (ib_ v2 40) <|
    lt_ (sI S 25 v0 v2.toNatClampNeg v1) fun S2 =>
    lt_ (v2 + (1 : Int32)) fun x3 =>
    kh5 S2 v0 v1 x3 v3)
def f_J7_fill_53178_b5 (E : EN) (n : Nat) : ST → Nat → Int32 → Int32 → Int32 → Option ST := fx_ (fun _ _ _ _ _ => none) (g_J7_fill_53178_b5 E) n
def f_J7_fill_53178 (E : EN) (S : ST) (a1 : Nat) (a2 : Int32) : Option ST :=
  f_J7_fill_53178_b5 E E.1 S a1 a2 (0 : Int32) (40 : Int32)
/-! X4_becomes -/
def f_X4_becomes (E : EN) (i0 : Nat) (S : ST) (a1 : Int32) (a2 : Int32) : Option ST :=
  lt_ (sI S 24 i0 0 a1) fun S1 =>
  lt_ (sI S1 24 i0 1 a2) fun S2 =>
  bd_ (f_J7_fill_53178 E S2 i0 (0 : Int32)) fun S3 =>
  some S3
/-! X4_cutDown -/
def f_X4_cutDown (E : EN) (i0 : Nat) (S : ST) (a1 : Int32) : Option Int32 :=
  (if (gI S 24 i0 0) = 0 then
    some a1.toInt8.toInt32
  else
    (if (gI S 24 i0 0) = (1 : Int32) then
      some a1.toInt16.toInt32
    else
      some a1))
/-! X4_within -/
def g_X4_within_b2 (E : EN) (i0 : Nat) (kh2 : ST → Int32 → Int32 → Option Int32) (S : ST) (v1 : Int32) (v2 : Int32) : Option Int32 :=
  (if (gI S 24 i0 1) ≤ v2 then
    some (1 : Int32)
  else
    ck_ (ib_ v2 40) <|
    (if (gI S 25 i0 v2.toNatClampNeg) < 0 then
      some (0 : Int32)
    else
      (if (gI S 25 i0 v2.toNatClampNeg) ≤ v1 then
        lt_ (v2 + (1 : Int32)) fun x2 =>
        kh2 S v1 x2
      else
        some (0 : Int32))))
def f_X4_within_b2 (E : EN) (i0 : Nat) (n : Nat) : ST → Int32 → Int32 → Option Int32 := fx_ (fun _ _ _ => none) (g_X4_within_b2 E i0) n
def f_X4_within (E : EN) (i0 : Nat) (S : ST) (a1 : Int32) : Option Int32 :=
  f_X4_within_b2 E i0 E.1 S a1 (0 : Int32)
/-! X4_squares -/
def f_X4_squares_b44 (E : EN) (i0 : Nat) (kh7 : ST → Int32 → Int32 → Int32 → Int32 → Option Int32) (S : ST) (v1 : Int32) (v2 : Int32) (v3 : Int32) (v4 : Int32) : Option Int32 :=
  lt_ (v4 + (1 : Int32)) fun x1 =>
  kh7 S v1 v2 v3 x1
def g_X4_squares_b7 (E : EN) (i0 : Nat) (kh7 : ST → Int32 → Int32 → Int32 → Int32 → Option Int32) (S : ST) (v1 : Int32) (v2 : Int32) (v3 : Int32) (v4 : Int32) : Option Int32 :=
  (if (gI S 24 i0 1) ≤ v4 then
    some v2
  else
    ck_ (ib_ v4 40) <|
    lt_ (v3 + (gI S 25 i0 v4.toNatClampNeg)) fun x3 =>
    (if ((v1 >>> (v4 &&& 31)) &&& (1 : Int32)) = (1 : Int32) then
      lt_ (v2 + (x3 * x3)) fun x4 =>
      f_X4_squares_b44 E i0 kh7 S v1 x4 (0 : Int32) v4
    else
      f_X4_squares_b44 E i0 kh7 S v1 v2 x3 v4))
def f_X4_squares_b7 (E : EN) (i0 : Nat) (n : Nat) : ST → Int32 → Int32 → Int32 → Int32 → Option Int32 := fx_ (fun _ _ _ _ _ => none) (g_X4_squares_b7 E i0) n
def f_X4_squares (E : EN) (i0 : Nat) (S : ST) (a1 : Int32) : Option Int32 :=
  f_X4_squares_b7 E i0 E.1 S a1 (0 : Int32) (0 : Int32) (0 : Int32)
/-! X6_known -/
def f_X6_known (E : EN) (S : ST) (a1 : Int32) : Option (Option Nat) :=
  (if a1 < 0 then
    some none
  else
    (if (gI S 2 0 1) ≤ a1 then
      some none
    else
      ck_ (ib_ a1 8) <|
      some (gR S 3 0 a1.toNatClampNeg)))
/-! X6_weigh -/
def g_X6_weigh_b35 (E : EN) (kh35 : ST → Nat → Int32 → Int32 → Int32 → Option (Int32 × ST)) (S : ST) (v3 : Nat) (v4 : Int32) (v5 : Int32) (v6 : Int32) : Option (Int32 × ST) :=
  (if (5 : Int32) ≤ v6 then
    some (v4, S)
  else
    ck_ (ib_ v6 5) <|
    lt_ (sI S 21 v3 v6.toNatClampNeg (rmI v5 (10 : Int32))) fun S2 =>
    lt_ (v5 / (10 : Int32)) fun x3 =>
    lt_ (v6 + (1 : Int32)) fun x4 =>
    kh35 S2 v3 v4 x3 x4)
def f_X6_weigh_b35 (E : EN) (n : Nat) : ST → Nat → Int32 → Int32 → Int32 → Option (Int32 × ST) := fx_ (fun _ _ _ _ _ => none) (g_X6_weigh_b35 E) n
def f_X6_weigh (E : EN) (S : ST) (a1 : Int32) (a2 : Int32) : Option (Int32 × ST) :=
  bd_ (f_X6_known E S a1) fun r5 =>
  nl_ r5
    (some ((-2 : Int32), S))
    fun k6 => ck_ (decide (k6 < E.2.1)) <|
    (if a2 ≤ 0 then
      some ((-2 : Int32), S)
    else
      (if a2 ≤ (99999 : Int32) then
        bd_ (f_X2_together E k6 S) fun r8 =>
        f_X6_weigh_b35 E E.1 S k6 r8 a2 (0 : Int32)
      else
        some ((-2 : Int32), S)))
/-! X6_told -/
def f_X6_told (E : EN) (S : ST) (a1 : Int32) (a2 : Int32) : Option Int32 :=
  bd_ (f_X6_known E S a1) fun r1 =>
  nl_ r1
    (some (-5 : Int32))
    fun k2 => ck_ (decide (k2 < E.2.1)) <|
    (if a2 = (0 : Int32) then
      some (gI S 20 k2 0)
    else
      (if a2 = (1 : Int32) then
        some (gI S 20 k2 3)
      else
        (if a2 = (2 : Int32) then
          some (gI S 20 k2 1)
        else
          (if a2 = (3 : Int32) then
            some (gI S 20 k2 2)
          else
            (if a2 < (4 : Int32) then
              some (-5 : Int32)
            else
              (if (9 : Int32) ≤ a2 then
                some (-5 : Int32)
              else
                ck_ (ib_ (a2 - (4 : Int32)) 5) <|
                some (gI S 21 k2 (a2 - (4 : Int32)).toNatClampNeg)))))))
/-! X6_feed -/
def f_X6_feed_b72 (E : EN) (S : ST)  : Option (Int32 × ST) :=
  some (gI S 2 0 6, S)
def g_X6_feed_b32 (E : EN) (kh32 : ST → Int32 → Int64 → Int32 → Option (Int32 × ST)) (S : ST) (v1 : Int32) (v2 : Int64) (v4 : Int32) : Option (Int32 × ST) :=
  (if v1 ≤ v4 then
    f_X6_feed_b72 E S
  else
    ck_ (ib_ (gI S 2 0 6) 160) <|
    lt_ (sI S 5 0 (gI S 2 0 6).toNatClampNeg ((((v2 >>> (((8 : Int32) * v4).toInt64 &&& 63)).toInt32).toInt8.toInt32).toInt8.toInt32)) fun S2 =>
    lt_ (sI S2 2 0 6 ((gI S2 2 0 6) + (1 : Int32))) fun S3 =>
    lt_ (v4 + (1 : Int32)) fun x4 =>
    kh32 S3 v1 v2 x4)
def f_X6_feed_b32 (E : EN) (n : Nat) : ST → Int32 → Int64 → Int32 → Option (Int32 × ST) := fx_ (fun _ _ _ _ => none) (g_X6_feed_b32 E) n
def f_X6_feed (E : EN) (S : ST) (a1 : Int32) (a2 : Int64) : Option (Int32 × ST) :=
  (if a1 < (1 : Int32) then
    some ((-2 : Int32), S)
  else
    (if a1 ≤ (8 : Int32) then
      (if ((gI S 2 0 6) + a1) ≤ (160 : Int32) then
        f_X6_feed_b32 E E.1 S a1 a2 (0 : Int32)
      else
        some ((-4 : Int32), S))
    else
      some ((-2 : Int32), S)))
/-! X6_force -/
def f_X6_force (E : EN) (S : ST) (a1 : Int32) : Option (Int32 × ST) :=
  (if a1 < 0 then
    some ((-2 : Int32), S)
  else
    (if a1 < (gI S 2 0 3) then
      lt_ (gI S 2 0 4) fun x1 =>
      lt_ (sI S 2 0 4 a1) fun S2 =>
      some (x1, S2)
    else
      some ((-2 : Int32), S)))
/-! X6_says -/
def f_X6_says (E : EN) (S : ST) (a1 : Int32) (a2 : Int32) (a3 : Int32) : Option (Int32 × ST) :=
  (if a1 < 0 then
    some ((-2 : Int32), S)
  else
    (if a2 < 0 then
      some ((-2 : Int32), S)
    else
      (if a3 < 0 then
        some ((-2 : Int32), S)
      else
        (if a3 < (3 : Int32) then
          lt_ (a1 / (100 : Int32)) fun x1 =>
          lt_ (rmI (a1 / (10 : Int32)) (10 : Int32)) fun x2 =>
          lt_ (rmI a1 (10 : Int32)) fun x3 =>
          (if (5 : Int32) ≤ x1 then
            some ((-2 : Int32), S)
          else
            (if (5 : Int32) ≤ x2 then
              some ((-2 : Int32), S)
            else
              (if (5 : Int32) < x3 then
                some ((-2 : Int32), S)
              else
                (if (4 : Int32) ≤ (a2 / (10 : Int32)) then
                  some ((-2 : Int32), S)
                else
                  (if (rmI a2 (10 : Int32)) ≤ (5 : Int32) then
                    ck_ (ib_ (gI S 2 0 4) 6) <|
                    lt_ (gR S 4 0 (gI S 2 0 4).toNatClampNeg) fun o5 =>
                    nl_ o5
                      (none)
                      fun k6 => ck_ (decide (k6 < E.2.2.1)) <|
                      bd_ (f_X0_rely E S k6 (gI S 2 0 4) (a2 / (10 : Int32))) fun S8 =>
                      bd2 (f_X0_asks E S8 a3 x1 x2 x3 (rmI a2 (10 : Int32))) fun r9 S10 =>
                      some (r9, S10)
                  else
                    some ((-2 : Int32), S))))))
        else
          some ((-2 : Int32), S)))))
/-! X6_areMarks -/
def f_X6_areMarks (E : EN) (S : ST) (a1 : Int32) : Option Int32 :=
  (if a1 < 0 then
    some (0 : Int32)
  else
    (if (5 : Int32) < (a1 / (100 : Int32)) then
      some (0 : Int32)
    else
      (if ((1 : Int32) <<< ((a1 / (100 : Int32)) &&& 31)) ≤ (rmI a1 (100 : Int32)) then
        some (0 : Int32)
      else
        some (1 : Int32))))
/-! X6_start -/
def f_X6_start (E : EN) (S : ST) (a1 : Nat) (a2 : Int32) (a3 : Int32) (a4 : Int32) : Option ST :=
  ck_ (ib_ (gI S 2 0 4) 6) <|
  lt_ (gR S 4 0 (gI S 2 0 4).toNatClampNeg) fun o2 =>
  nl_ o2
    (none)
    fun k3 => ck_ (decide (k3 < E.2.2.1)) <|
    bd_ (f_X0_rely E S k3 (gI S 2 0 4) (gI S 20 a1 1)) fun S5 =>
    bd_ (f_X1_begin E S5 a1 a4 a2 a3) fun S6 =>
    some S6
/-! X6_follow -/
def f_X6_follow (E : EN) (S : ST) (a1 : Nat) (a2 : Int32) : Option ST :=
  bd_ (f_X6_start E S a1 (gI S 20 a1 0) (gI S 20 a1 2) (gI S 20 a1 3)) fun S1 =>
  bd_ (f_X1_follow E S1 (a2 / (100 : Int32)) (rmI a2 (100 : Int32))) fun S2 =>
  some S2
/-! X6_isPart -/
def f_X6_isPart_b9 (E : EN) (S : ST)  : Option Int32 :=
  some (1 : Int32)
def f_X6_isPart (E : EN) (S : ST) (a1 : Int32) : Option Int32 :=
  (if a1 = 0 then
    f_X6_isPart_b9 E S
  else
    (if a1 = (1 : Int32) then
      f_X6_isPart_b9 E S
    else
      some (0 : Int32)))
/-! X6_lowest -/
def f_X6_lowest_b12 (E : EN) (S : ST) (v4 : Int32) : Option Int64 :=
  (if v4 = 0 then
    some (0 : Int64)
  else
    some (1 : Int64))
def f_X6_lowest_b54 (E : EN) (S : ST) (v5 : Int64) (t0 : Int64) : Option Int64 :=
  ck_ (!decide (v5 = 0)) <|
  some (t0 / v5)
def f_X6_lowest (E : EN) (S : ST) (a1 : Int64) (a2 : Int64) (a3 : Int32) : Option Int64 :=
  (if a1 = (0 : Int64) then
    f_X6_lowest_b12 E S a3
  else
    (if a2 = (0 : Int64) then
      f_X6_lowest_b12 E S a3
    else
      bd_ (f_X6_common E S (abL a1) a2) fun r2 =>
      (if r2 = (0 : Int64) then
        some (0 : Int64)
      else
        (if a3 = 0 then
          f_X6_lowest_b54 E S r2 a1
        else
          f_X6_lowest_b54 E S r2 a2))))
/-! X6_thought -/
def f_X6_thought (E : EN) (S : ST) (a1 : Int32) (a2 : Int32) (a3 : Int32) (a4 : Int32) : Option (Int64 × ST) :=
  bd_ (f_X6_known E S a1) fun r1 =>
  nl_ r1
    (some ((-4611686018427387904 : Int64), S))
    fun k2 => ck_ (decide (k2 < E.2.1)) <|
    bd_ (f_X6_areMarks E S a2) fun r4 =>
    (if r4 = 0 then
      some ((-4611686018427387904 : Int64), S)
    else
      (if a3 < 0 then
        some ((-4611686018427387904 : Int64), S)
      else
        (if (5 : Int32) ≤ a3 then
          some ((-4611686018427387904 : Int64), S)
        else
          bd_ (f_X6_isPart E S a4) fun r5 =>
          (if r5 = 0 then
            some ((-4611686018427387904 : Int64), S)
          else
            bd_ (f_X6_follow E S k2 a2) fun S6 =>
            lt_ (a2 / (100 : Int32)) fun x7 =>
            bd_ (f_X1_weightsAt E S6 x7) fun r8 =>
            nl_ r8
              (none)
              fun k9 => ck_ (decide (k9 < 6)) <|
              ck_ (ib_ a3 5) <|
              bd_ (f_X1_together E S6 x7) fun r12 =>
              bd_ (f_X6_lowest E S6 (gL S6 28 k9 a3.toNatClampNeg) r12 a4) fun r13 =>
              some (r13, S6)))))
/-! X6_moves -/
def f_X6_moves (E : EN) (S : ST) (a1 : Int32) (a2 : Int32) (a3 : Int32) : Option (Int32 × ST) :=
  bd_ (f_X6_known E S a1) fun r1 =>
  nl_ r1
    (some ((-5 : Int32), S))
    fun k2 => ck_ (decide (k2 < E.2.1)) <|
    bd_ (f_X6_areMarks E S a2) fun r4 =>
    (if r4 = 0 then
      some ((-5 : Int32), S)
    else
      (if a3 < 0 then
        some ((-5 : Int32), S)
      else
        (if a3 ≤ (2 : Int32) then
          bd_ (f_X6_follow E S k2 a2) fun S5 =>
          lt_ (a2 / (100 : Int32)) fun x6 =>
          (if a3 = 0 then
            bd_ (f_X1_classThen E S5 x6) fun r9 =>
            some (r9, S5)
          else
            (if a3 = (1 : Int32) then
              bd_ (f_X1_movedThen E S5 x6) fun r8 =>
              some (r8, S5)
            else
              bd_ (f_X1_wish E S5 (x6 - (1 : Int32))) fun r7 =>
              some (r7, S5)))
        else
          some ((-5 : Int32), S))))
/-! X6_grown -/
def g_X6_grown_b5 (E : EN) (kh5 : ST → Int32 → Int64 → Int32 → Option Int64) (S : ST) (v2 : Int32) (v3 : Int64) (v5 : Int32) : Option Int64 :=
  (if v2 ≤ v5 then
    some v3
  else
    (if (5 : Int32) ≤ v5 then
      some v3
    else
      lt_ (v3 * (100 : Int64)) fun x1 =>
      lt_ (v5 + (1 : Int32)) fun x2 =>
      kh5 S v2 x1 x2))
def f_X6_grown_b5 (E : EN) (n : Nat) : ST → Int32 → Int64 → Int32 → Option Int64 := fx_ (fun _ _ _ _ => none) (g_X6_grown_b5 E) n
def f_X6_grown (E : EN) (S : ST) (a1 : Int64) (a2 : Int32) : Option Int64 :=
  f_X6_grown_b5 E E.1 S a2 a1 (0 : Int32)
/-! X6_likely -/
def f_X6_likely (E : EN) (S : ST) (a1 : Int32) (a2 : Int32) (a3 : Int32) : Option (Int64 × ST) :=
  bd_ (f_X6_known E S a1) fun r1 =>
  nl_ r1
    (some ((-4611686018427387904 : Int64), S))
    fun k2 => ck_ (decide (k2 < E.2.1)) <|
    bd_ (f_X6_areMarks E S a2) fun r4 =>
    (if r4 = 0 then
      some ((-4611686018427387904 : Int64), S)
    else
      (if a3 < 0 then
        some ((-4611686018427387904 : Int64), S)
      else
        (if a3 ≤ (3 : Int32) then
          bd_ (f_X6_follow E S k2 a2) fun S5 =>
          lt_ (a2 / (100 : Int32)) fun x6 =>
          (if (2 : Int32) ≤ a3 then
            bd_ (f_X1_fit E S5 x6) fun r7 =>
            bd_ (f_X1_together E S5 x6) fun r8 =>
            bd_ (f_X6_lowest E S5 r7 r8 (a3 - (2 : Int32))) fun r9 =>
            some (r9, S5)
          else
            bd_ (f_X1_together E S5 x6) fun r10 =>
            bd_ (f_X1_together E S5 (0 : Int32)) fun r11 =>
            bd_ (f_X6_grown E S5 r11 x6) fun r12 =>
            bd_ (f_X6_lowest E S5 r10 r12 a3) fun r13 =>
            some (r13, S5))
        else
          some ((-4611686018427387904 : Int64), S))))
/-! X6_mean -/
def f_X6_mean_b130 (E : EN) (S : ST) (v2 : Int32) (v3 : Nat) (v4 : Int64) : Option (Int64 × ST) :=
  bd_ (f_X2_together E v3 S) fun r1 =>
  bd_ (f_X6_grown E S r1.toInt64 (5 : Int32)) fun r2 =>
  bd_ (f_X6_lowest E S v4 r2 (rmI v2 (2 : Int32))) fun r3 =>
  some (r3, S)
def f_X6_mean (E : EN) (S : ST) (a1 : Int32) (a2 : Int32) : Option (Int64 × ST) :=
  bd_ (f_X6_known E S a1) fun r4 =>
  nl_ r4
    (some ((-4611686018427387904 : Int64), S))
    fun k5 => ck_ (decide (k5 < E.2.1)) <|
    (if a2 < 0 then
      some ((-4611686018427387904 : Int64), S)
    else
      (if a2 ≤ (7 : Int32) then
        bd_ (f_X6_start E S k5 (gI S 20 k5 0) (gI S 20 k5 2) (gI S 20 k5 3)) fun S7 =>
        lt_ (a2 / (2 : Int32)) fun x8 =>
        (if x8 = (0 : Int32) then
          bd2 (f_X1_ends E 7 S7 (0 : Int32)) fun r9 S10 =>
          f_X6_mean_b130 E S10 a2 k5 r9
        else
          (if x8 = (1 : Int32) then
            bd2 (f_X1_rights E 7 S7 (0 : Int32)) fun r11 S12 =>
            f_X6_mean_b130 E S12 a2 k5 r11
          else
            (if x8 = (2 : Int32) then
              bd2 (f_X1_best E 13 S7 (0 : Int32)) fun r13 S14 =>
              f_X6_mean_b130 E S14 a2 k5 r13
            else
              bd2 (f_X1_best E 13 S7 (0 : Int32)) fun r15 S16 =>
              bd2 (f_X1_ends E 7 S16 (0 : Int32)) fun r17 S18 =>
              lt_ (r15 - r17) fun x19 =>
              f_X6_mean_b130 E S18 a2 k5 x19)))
      else
        some ((-4611686018427387904 : Int64), S)))
/-! X6_endsBy -/
def f_X6_endsBy (E : EN) (S : ST) (a1 : Nat) (a2 : Int32) (a3 : Int32) (a4 : Int32) : Option (Int64 × ST) :=
  bd_ (f_X6_start E S a1 a2 a3 a4) fun S1 =>
  bd2 (f_X1_ends E 7 S1 (0 : Int32)) fun r2 S3 =>
  some (r2, S3)
/-! X6_off -/
def f_X6_off_b22 (E : EN) (S : ST) (v2 : Int32) (v3 : Int32) (v4 : Nat) : Option (Int64 × ST) :=
  bd_ (f_X6_isPart E S v3) fun r1 =>
  (if r1 = 0 then
    some ((-4611686018427387904 : Int64), S)
  else
    bd2 (f_X6_endsBy E S v4 (gI S 20 v4 0) (gI S 20 v4 2) (gI S 20 v4 3)) fun r2 S3 =>
    bd_ (f_X6_held E S3 ((gI S3 20 v4 3) + v2)) fun r4 =>
    bd2 (f_X6_endsBy E S3 v4 (gI S3 20 v4 0) (gI S3 20 v4 2) r4) fun r5 S6 =>
    bd_ (f_X2_together E v4 S6) fun r7 =>
    bd_ (f_X6_grown E S6 r7.toInt64 (5 : Int32)) fun r8 =>
    bd_ (f_X6_lowest E S6 (r2 - r5) r8 v3) fun r9 =>
    some (r9, S6))
def f_X6_off (E : EN) (S : ST) (a1 : Int32) (a2 : Int32) (a3 : Int32) : Option (Int64 × ST) :=
  bd_ (f_X6_known E S a1) fun r10 =>
  nl_ r10
    (some ((-4611686018427387904 : Int64), S))
    fun k11 => ck_ (decide (k11 < E.2.1)) <|
    (if a2 = (1 : Int32) then
      f_X6_off_b22 E S a2 a3 k11
    else
      (if a2 = (-1 : Int32) then
        f_X6_off_b22 E S a2 a3 k11
      else
        some ((-4611686018427387904 : Int64), S)))
/-! X6_rule -/
def f_X6_rule_b114 (E : EN) (kh46 : ST → Int32 → Nat → Int32 → Int32 → Int64 → Int32 → Option (Int32 × ST)) (S : ST) (v2 : Int32) (v3 : Nat) (v4 : Int32) (v5 : Int32) (v6 : Int64) (v8 : Int32) : Option (Int32 × ST) :=
  lt_ (v8 + (1 : Int32)) fun x1 =>
  kh46 S v2 v3 v4 v5 v6 x1
def f_X6_rule_b81 (E : EN) (kh46 : ST → Int32 → Nat → Int32 → Int32 → Int64 → Int32 → Option (Int32 × ST)) (S : ST) (v2 : Int32) (v3 : Nat) (v4 : Int32) (v5 : Int32) (v6 : Int64) (v8 : Int32) (v9 : Int32) (t0 : Int32) : Option (Int32 × ST) :=
  bd2 (f_X6_endsBy E S v3 v9 t0 (gI S 20 v3 3)) fun r2 S3 =>
  (if r2 ≤ v6 then
    f_X6_rule_b114 E kh46 S3 v2 v3 v4 v5 v6 v8
  else
    f_X6_rule_b114 E kh46 S3 v2 v3 v4 v8 r2 v8)
def f_X6_rule_b66 (E : EN) (kh46 : ST → Int32 → Nat → Int32 → Int32 → Int64 → Int32 → Option (Int32 × ST)) (S : ST) (v2 : Int32) (v3 : Nat) (v4 : Int32) (v5 : Int32) (v6 : Int64) (v8 : Int32) (t0 : Int32) : Option (Int32 × ST) :=
  (if v2 = 0 then
    f_X6_rule_b81 E kh46 S v2 v3 v4 v5 v6 v8 t0 v8
  else
    f_X6_rule_b81 E kh46 S v2 v3 v4 v5 v6 v8 t0 (gI S 20 v3 2))
def g_X6_rule_b46 (E : EN) (kh46 : ST → Int32 → Nat → Int32 → Int32 → Int64 → Int32 → Option (Int32 × ST)) (S : ST) (v2 : Int32) (v3 : Nat) (v4 : Int32) (v5 : Int32) (v6 : Int64) (v8 : Int32) : Option (Int32 × ST) :=
  (if v4 ≤ v8 then
    some (v5, S)
  else
    (if v2 = 0 then
      f_X6_rule_b66 E kh46 S v2 v3 v4 v5 v6 v8 (gI S 20 v3 0)
    else
      f_X6_rule_b66 E kh46 S v2 v3 v4 v5 v6 v8 v8))
def f_X6_rule_b46 (E : EN) (n : Nat) : ST → Int32 → Nat → Int32 → Int32 → Int64 → Int32 → Option (Int32 × ST) := fx_ (fun _ _ _ _ _ _ _ => none) (g_X6_rule_b46 E) n
def f_X6_rule_b33 (E : EN) (S : ST) (v2 : Int32) (v3 : Nat) (t0 : Int32) : Option (Int32 × ST) :=
  f_X6_rule_b46 E E.1 S v2 v3 t0 (0 : Int32) (-1 : Int64) (0 : Int32)
def f_X6_rule (E : EN) (S : ST) (a1 : Int32) (a2 : Int32) : Option (Int32 × ST) :=
  bd_ (f_X6_known E S a1) fun r4 =>
  nl_ r4
    (some ((-2 : Int32), S))
    fun k5 => ck_ (decide (k5 < E.2.1)) <|
    (if a2 < 0 then
      some ((-2 : Int32), S)
    else
      (if a2 ≤ (1 : Int32) then
        (if a2 = 0 then
          f_X6_rule_b33 E S a2 k5 (10 : Int32)
        else
          f_X6_rule_b33 E S a2 k5 (6 : Int32))
      else
        some ((-2 : Int32), S)))
/-! X6_laid -/
def f_X6_laid (E : EN) (S : ST) (a1 : Int32) : Option (Option Nat) :=
  (if a1 < 0 then
    some none
  else
    (if (4 : Int32) ≤ a1 then
      some none
    else
      ck_ (ib_ a1 4) <|
      some (some a1.toNatClampNeg)))
/-! X6_likeliest -/
def f_X6_likeliest_b51 (E : EN) (kh9 : ST → Int32 → Int32 → Int64 → Int32 → Option Int32) (S : ST) (v1 : Int32) (v2 : Int32) (v3 : Int64) (v5 : Int32) : Option Int32 :=
  lt_ (v5 + (1 : Int32)) fun x1 =>
  kh9 S v1 v2 v3 x1
def g_X6_likeliest_b9 (E : EN) (kh9 : ST → Int32 → Int32 → Int64 → Int32 → Option Int32) (S : ST) (v1 : Int32) (v2 : Int32) (v3 : Int64) (v5 : Int32) : Option Int32 :=
  (if (gI S 2 0 1) ≤ v5 then
    some v2
  else
    (if ((v1 >>> (v5 &&& 31)) &&& (1 : Int32)) = (1 : Int32) then
      ck_ (ib_ v5 8) <|
      (if (gL S 7 0 v5.toNatClampNeg) ≤ v3 then
        f_X6_likeliest_b51 E kh9 S v1 v2 v3 v5
      else
        lt_ (gL S 7 0 v5.toNatClampNeg) fun x3 =>
        f_X6_likeliest_b51 E kh9 S v1 v5 x3 v5)
    else
      f_X6_likeliest_b51 E kh9 S v1 v2 v3 v5))
def f_X6_likeliest_b9 (E : EN) (n : Nat) : ST → Int32 → Int32 → Int64 → Int32 → Option Int32 := fx_ (fun _ _ _ _ _ => none) (g_X6_likeliest_b9 E) n
def f_X6_likeliest (E : EN) (S : ST) (a1 : Int32) : Option Int32 :=
  f_X6_likeliest_b9 E E.1 S a1 (0 : Int32) (-1 : Int64) (0 : Int32)
/-! X6_room -/
def g_X6_room_b169 (E : EN) (kh169 : ST → Int32 → Int32 → Int32 → Int32 → Option (Int32 × ST)) (S : ST) (v1 : Int32) (v2 : Int32) (v5 : Int32) (v6 : Int32) : Option (Int32 × ST) :=
  (if v2 ≤ v6 then
    some (v5, S)
  else
    (if v5 = v1 then
      some (v5, S)
    else
      bd_ (f_X6_likeliest E S (v1 &&& (v5 ^^^ (-1 : Int32)))) fun r1 =>
      lt_ (v5 ||| ((1 : Int32) <<< (r1 &&& 31))) fun x2 =>
      lt_ (v6 + (1 : Int32)) fun x3 =>
      kh169 S v1 v2 x2 x3))
def f_X6_room_b169 (E : EN) (n : Nat) : ST → Int32 → Int32 → Int32 → Int32 → Option (Int32 × ST) := fx_ (fun _ _ _ _ _ => none) (g_X6_room_b169 E) n
def f_X6_room_b163 (E : EN) (S : ST) (v1 : Int32) (v2 : Int32) : Option (Int32 × ST) :=
  f_X6_room_b169 E E.1 S v1 v2 (0 : Int32) (0 : Int32)
def g_X6_room_b104 (E : EN) (kh104 : ST → Int32 → Int32 → Nat → Int32 → Option (Int32 × ST)) (S : ST) (v1 : Int32) (v2 : Int32) (v4 : Nat) (v5 : Int32) : Option (Int32 × ST) :=
  (if (gI S 2 0 1) ≤ v5 then
    f_X6_room_b163 E S v1 v2
  else
    ck_ (ib_ v5 8) <|
    lt_ (gR S 3 0 v5.toNatClampNeg) fun o5 =>
    nl_ o5
      (ck_ (ib_ v5 40) <|
      none)
      fun k6 => ck_ (decide (k6 < E.2.1)) <|
      ck_ (ib_ v5 40) <|
      bd_ (f_X6_follow E S k6 (gI S 25 v4 v5.toNatClampNeg)) fun S10 =>
      bd_ (f_X1_share E S10 ((gI S10 25 v4 v5.toNatClampNeg) / (100 : Int32))) fun r11 =>
      lt_ (sL S10 7 0 v5.toNatClampNeg r11) fun S12 =>
      lt_ (v5 + (1 : Int32)) fun x13 =>
      kh104 S12 v1 v2 v4 x13)
def f_X6_room_b104 (E : EN) (n : Nat) : ST → Int32 → Int32 → Nat → Int32 → Option (Int32 × ST) := fx_ (fun _ _ _ _ _ => none) (g_X6_room_b104 E) n
def f_X6_room_b101 (E : EN) (S : ST) (v1 : Int32) (v2 : Int32) (v4 : Nat) : Option (Int32 × ST) :=
  f_X6_room_b104 E E.1 S v1 v2 v4 (0 : Int32)
def g_X6_room_b69 (E : EN) (kh69 : ST → Int32 → Int32 → Nat → Int32 → Option (Int32 × ST)) (S : ST) (v1 : Int32) (v2 : Int32) (v4 : Nat) (v5 : Int32) : Option (Int32 × ST) :=
  (if (gI S 2 0 1) ≤ v5 then
    f_X6_room_b101 E S v1 v2 v4
  else
    ck_ (ib_ v5 40) <|
    bd_ (f_X6_areMarks E S (gI S 25 v4 v5.toNatClampNeg)) fun r15 =>
    (if r15 = 0 then
      some ((-2 : Int32), S)
    else
      lt_ (v5 + (1 : Int32)) fun x16 =>
      kh69 S v1 v2 v4 x16))
def f_X6_room_b69 (E : EN) (n : Nat) : ST → Int32 → Int32 → Nat → Int32 → Option (Int32 × ST) := fx_ (fun _ _ _ _ _ => none) (g_X6_room_b69 E) n
def f_X6_room (E : EN) (S : ST) (a1 : Int32) (a2 : Int32) (a3 : Int32) : Option (Int32 × ST) :=
  bd_ (f_X6_laid E S a3) fun r17 =>
  nl_ r17
    ((if a1 < 0 then
      some ((-2 : Int32), S)
    else
      (if ((1 : Int32) <<< ((gI S 2 0 1) &&& 31)) ≤ a1 then
        some ((-2 : Int32), S)
      else
        (if a2 < 0 then
          some ((-2 : Int32), S)
        else
          (if (8 : Int32) < a2 then
            some ((-2 : Int32), S)
          else
            some ((-2 : Int32), S))))))
    fun k18 => ck_ (decide (k18 < 4)) <|
    (if a1 < 0 then
      some ((-2 : Int32), S)
    else
      (if ((1 : Int32) <<< ((gI S 2 0 1) &&& 31)) ≤ a1 then
        some ((-2 : Int32), S)
      else
        (if a2 < 0 then
          some ((-2 : Int32), S)
        else
          (if (8 : Int32) < a2 then
            some ((-2 : Int32), S)
          else
            (if (gI S 24 k18 0) = (-1 : Int32) then
              some ((-11 : Int32), S)
            else
              (if (gI S 24 k18 1) = (gI S 2 0 1) then
                f_X6_room_b69 E E.1 S a1 a2 k18 (0 : Int32)
              else
                some ((-2 : Int32), S)))))))
/-! X6_summer -/
def f_X6_summer_b112 (E : EN) (S : ST) (v3 : Nat) (v4 : Nat) : Option (Int32 × ST) :=
  bd2 (f_X2_takes E v3 S v4) fun r1 S2 =>
  (if r1 = 0 then
    some ((-3 : Int32), S2)
  else
    bd_ (f_X2_together E v3 S2) fun r3 =>
    some (r3, S2))
def f_X6_summer_b82 (E : EN) (kh36 : ST → Int32 → Nat → Nat → Int32 → Option (Int32 × ST)) (S : ST) (v2 : Int32) (v3 : Nat) (v4 : Nat) (v5 : Int32) (v6 : Int64) (t0 : Int64) : Option (Int32 × ST) :=
  ck_ (ib_ v5 5) <|
  lt_ (sL S 28 v4 v5.toNatClampNeg ((((gI S 21 v3 v5.toNatClampNeg).toInt64) * v6) + (t0 * v2.toInt64))) fun S5 =>
  lt_ (v5 + (1 : Int32)) fun x6 =>
  kh36 S5 v2 v3 v4 x6
def f_X6_summer_b58 (E : EN) (kh36 : ST → Int32 → Nat → Nat → Int32 → Option (Int32 × ST)) (S : ST) (v2 : Int32) (v3 : Nat) (v4 : Nat) (v5 : Int32) (t0 : Int64) : Option (Int32 × ST) :=
  (if (5 : Int32) ≤ (v5 + (1 : Int32)) then
    f_X6_summer_b82 E kh36 S v2 v3 v4 v5 t0 (0 : Int64)
  else
    ck_ (ib_ (v5 + (1 : Int32)) 5) <|
    f_X6_summer_b82 E kh36 S v2 v3 v4 v5 t0 ((gI S 21 v3 (v5 + (1 : Int32)).toNatClampNeg).toInt64))
def g_X6_summer_b36 (E : EN) (kh36 : ST → Int32 → Nat → Nat → Int32 → Option (Int32 × ST)) (S : ST) (v2 : Int32) (v3 : Nat) (v4 : Nat) (v5 : Int32) : Option (Int32 × ST) :=
  (if (5 : Int32) ≤ v5 then
    f_X6_summer_b112 E S v3 v4
  else
    (if v5 = 0 then
      f_X6_summer_b58 E kh36 S v2 v3 v4 v5 (10 : Int64)
    else
      f_X6_summer_b58 E kh36 S v2 v3 v4 v5 (((10 : Int32) - v2).toInt64)))
def f_X6_summer_b36 (E : EN) (n : Nat) : ST → Int32 → Nat → Nat → Int32 → Option (Int32 × ST) := fx_ (fun _ _ _ _ _ => none) (g_X6_summer_b36 E) n
def f_X6_summer (E : EN) (S : ST) (a1 : Int32) (a2 : Int32) : Option (Int32 × ST) :=
  bd_ (f_X6_known E S a1) fun r8 =>
  nl_ r8
    (some ((-2 : Int32), S))
    fun k9 => ck_ (decide (k9 < E.2.1)) <|
    (if a2 < 0 then
      some ((-2 : Int32), S)
    else
      (if a2 ≤ (9 : Int32) then
        bd_ (f_X1_weightsAt E S (0 : Int32)) fun r11 =>
        nl_ r11
          (none)
          fun k12 => ck_ (decide (k12 < 6)) <|
          f_X6_summer_b36 E E.1 S a2 k9 k12 (0 : Int32)
      else
        some ((-2 : Int32), S)))
/-! X6_test -/
def f_X6_test (E : EN) (S : ST) (a1 : Int32) (a2 : Int32) : Option (Int32 × ST) :=
  bd_ (f_X6_known E S a1) fun r1 =>
  nl_ r1
    (some ((-2 : Int32), S))
    fun k2 => ck_ (decide (k2 < E.2.1)) <|
    bd_ (f_X6_areMarks E S a2) fun r4 =>
    (if r4 = 0 then
      some ((-2 : Int32), S)
    else
      bd_ (f_X6_follow E S k2 a2) fun S5 =>
      lt_ (a2 / (100 : Int32)) fun x6 =>
      bd_ (f_X1_weightsAt E S5 x6) fun r7 =>
      nl_ r7
        (none)
        fun k8 => ck_ (decide (k8 < 6)) <|
        bd2 (f_X2_takes E k2 S5 k8) fun r10 S11 =>
        (if r10 = 0 then
          some ((-3 : Int32), S11)
        else
          bd_ (f_X1_classThen E S11 x6) fun r12 =>
          lt_ (sI S11 20 k2 3 r12) fun S13 =>
          some (gI S13 20 k2 3, S13)))
/-! X6_leastEnds -/
def f_X6_leastEnds_b61 (E : EN) (kh14 : ST → Nat → Int32 → Int32 → Int32 → Int32 → Option Int32) (S : ST) (v0 : Nat) (v1 : Int32) (v2 : Int32) (v3 : Int32) (v4 : Int32) : Option Int32 :=
  lt_ (v4 + (1 : Int32)) fun x1 =>
  kh14 S v0 v1 v2 v3 x1
def f_X6_leastEnds_b55 (E : EN) (kh14 : ST → Nat → Int32 → Int32 → Int32 → Int32 → Option Int32) (S : ST) (v0 : Nat) (v1 : Int32) (v4 : Int32) (v5 : Int32) : Option Int32 :=
  f_X6_leastEnds_b61 E kh14 S v0 v1 v4 v5 v4
def g_X6_leastEnds_b14 (E : EN) (kh14 : ST → Nat → Int32 → Int32 → Int32 → Int32 → Option Int32) (S : ST) (v0 : Nat) (v1 : Int32) (v2 : Int32) (v3 : Int32) (v4 : Int32) : Option Int32 :=
  (if ((1 : Int32) <<< ((gI S 24 v0 1) &&& 31)) ≤ v4 then
    some v2
  else
    bd_ (f_J6_bitCount_0f7a4 E S v4) fun r2 =>
    (if r2 = v1 then
      bd_ (f_X4_squares E v0 S v4) fun r3 =>
      (if v3 < 0 then
        f_X6_leastEnds_b55 E kh14 S v0 v1 v4 r3
      else
        (if v3 ≤ r3 then
          f_X6_leastEnds_b61 E kh14 S v0 v1 v2 v3 v4
        else
          f_X6_leastEnds_b55 E kh14 S v0 v1 v4 r3))
    else
      f_X6_leastEnds_b61 E kh14 S v0 v1 v2 v3 v4))
def f_X6_leastEnds_b14 (E : EN) (n : Nat) : ST → Nat → Int32 → Int32 → Int32 → Int32 → Option Int32 := fx_ (fun _ _ _ _ _ _ => none) (g_X6_leastEnds_b14 E) n
def f_X6_leastEnds (E : EN) (S : ST) (a1 : Nat) (a2 : Int32) : Option Int32 :=
  lt_ ((1 : Int32) <<< (((gI S 24 a1 1) - (1 : Int32)) &&& 31)) fun x4 =>
  f_X6_leastEnds_b14 E E.1 S a1 a2 (0 : Int32) (-1 : Int32) x4
/-! X6_cut -/
def f_X6_cut (E : EN) (S : ST) (a1 : Int32) (a2 : Int32) (a3 : Int32) : Option Int32 :=
  bd_ (f_X6_laid E S a2) fun r1 =>
  nl_ r1
    ((if a1 < (1 : Int32) then
      some (-2 : Int32)
    else
      (if (10 : Int32) < a1 then
        some (-2 : Int32)
      else
        some (-2 : Int32))))
    fun k2 => ck_ (decide (k2 < 4)) <|
    (if a1 < (1 : Int32) then
      some (-2 : Int32)
    else
      (if (10 : Int32) < a1 then
        some (-2 : Int32)
      else
        (if a3 < 0 then
          some (-2 : Int32)
        else
          (if a3 ≤ (1 : Int32) then
            (if (gI S 24 k2 0) = (-1 : Int32) then
              some (-11 : Int32)
            else
              (if (gI S 24 k2 1) < (1 : Int32) then
                some (-2 : Int32)
              else
                (if (10 : Int32) < (gI S 24 k2 1) then
                  some (-2 : Int32)
                else
                  bd_ (f_X4_within E k2 S (99 : Int32)) fun r4 =>
                  (if r4 = 0 then
                    some (-2 : Int32)
                  else
                    (if a1 ≤ (gI S 24 k2 1) then
                      bd_ (f_X6_leastEnds E S k2 a1) fun r5 =>
                      (if a3 = 0 then
                        bd_ (f_X4_squares E k2 S r5) fun r6 =>
                        some r6
                      else
                        some r5)
                    else
                      some (-1 : Int32))))))
          else
            some (-2 : Int32)))))
/-! X6_image -/
def f_X6_image_b25 (E : EN) (S : ST)  : Option (Int32 × ST) :=
  lt_ (sI S 2 0 12 (1 : Int32)) fun S1 =>
  lt_ (sI S1 2 0 13 (gI S1 2 0 1)) fun S2 =>
  lt_ (sI S2 2 0 14 (gI S2 2 0 4)) fun S3 =>
  some (gI S3 2 0 1, S3)
def g_X6_image_b2 (E : EN) (kh2 : ST → Int32 → Option (Int32 × ST)) (S : ST) (v1 : Int32) : Option (Int32 × ST) :=
  (if (gI S 2 0 1) ≤ v1 then
    f_X6_image_b25 E S
  else
    ck_ (ib_ v1 8) <|
    lt_ (gR S 3 0 v1.toNatClampNeg) fun o5 =>
    nl_ o5
      (none)
      fun k6 => ck_ (decide (k6 < E.2.1)) <|
      bd_ (f_X2_keep E k6 S) fun S8 =>
      lt_ (v1 + (1 : Int32)) fun x9 =>
      kh2 S8 x9)
def f_X6_image_b2 (E : EN) (n : Nat) : ST → Int32 → Option (Int32 × ST) := fx_ (fun _ _ => none) (g_X6_image_b2 E) n
def f_X6_image (E : EN) (S : ST)  : Option (Int32 × ST) :=
  f_X6_image_b2 E E.1 S (0 : Int32)
/-! X6_back -/
def f_X6_back_b43 (E : EN) (S : ST)  : Option (Int32 × ST) :=
  lt_ (sI S 2 0 4 (gI S 2 0 14)) fun S1 =>
  some (gI S1 2 0 1, S1)
def g_X6_back_b12 (E : EN) (kh12 : ST → Int32 → Option (Int32 × ST)) (S : ST) (v1 : Int32) : Option (Int32 × ST) :=
  (if (gI S 2 0 13) ≤ v1 then
    f_X6_back_b43 E S
  else
    (if (gI S 2 0 1) ≤ v1 then
      f_X6_back_b43 E S
    else
      ck_ (ib_ v1 8) <|
      lt_ (gR S 3 0 v1.toNatClampNeg) fun o3 =>
      nl_ o3
        (none)
        fun k4 => ck_ (decide (k4 < E.2.1)) <|
        bd_ (f_X2_lay E k4 S) fun S6 =>
        lt_ (v1 + (1 : Int32)) fun x7 =>
        kh12 S6 x7))
def f_X6_back_b12 (E : EN) (n : Nat) : ST → Int32 → Option (Int32 × ST) := fx_ (fun _ _ => none) (g_X6_back_b12 E) n
def f_X6_back (E : EN) (S : ST)  : Option (Int32 × ST) :=
  (if (gI S 2 0 12) = 0 then
    some ((-3 : Int32), S)
  else
    f_X6_back_b12 E E.1 S (0 : Int32))
/-! X6_allClasses -/
def g_X6_allClasses_b4 (E : EN) (kh4 : ST → Int32 → Int32 → Option Int32) (S : ST) (v1 : Int32) (v2 : Int32) : Option Int32 :=
  (if (gI S 2 0 1) ≤ v2 then
    some v1
  else
    ck_ (ib_ v2 8) <|
    lt_ (gR S 3 0 v2.toNatClampNeg) fun o2 =>
    nl_ o2
      (none)
      fun k3 => ck_ (decide (k3 < E.2.1)) <|
      lt_ (v1 + (gI S 20 k3 3)) fun x5 =>
      lt_ (v2 + (1 : Int32)) fun x6 =>
      kh4 S x5 x6)
def f_X6_allClasses_b4 (E : EN) (n : Nat) : ST → Int32 → Int32 → Option Int32 := fx_ (fun _ _ _ => none) (g_X6_allClasses_b4 E) n
def f_X6_allClasses (E : EN) (S : ST)  : Option Int32 :=
  f_X6_allClasses_b4 E E.1 S (0 : Int32) (0 : Int32)
/-! X6_allWeights -/
def g_X6_allWeights_b4 (E : EN) (kh4 : ST → Int32 → Int32 → Option Int32) (S : ST) (v1 : Int32) (v2 : Int32) : Option Int32 :=
  (if (gI S 2 0 1) ≤ v2 then
    some v1
  else
    ck_ (ib_ v2 8) <|
    lt_ (gR S 3 0 v2.toNatClampNeg) fun o2 =>
    nl_ o2
      (none)
      fun k3 => ck_ (decide (k3 < E.2.1)) <|
      bd_ (f_X2_together E k3 S) fun r5 =>
      lt_ (v1 + r5) fun x6 =>
      lt_ (v2 + (1 : Int32)) fun x7 =>
      kh4 S x6 x7)
def f_X6_allWeights_b4 (E : EN) (n : Nat) : ST → Int32 → Int32 → Option Int32 := fx_ (fun _ _ _ => none) (g_X6_allWeights_b4 E) n
def f_X6_allWeights (E : EN) (S : ST)  : Option Int32 :=
  f_X6_allWeights_b4 E E.1 S (0 : Int32) (0 : Int32)
/-! X6_count -/
def f_X6_count (E : EN) (S : ST) (a1 : Int32) : Option Int32 :=
  (if a1 = (0 : Int32) then
    some (gI S 2 0 1)
  else
    (if a1 = (1 : Int32) then
      some (gI S 2 0 3)
    else
      (if a1 = (2 : Int32) then
        some (gI S 2 0 6)
      else
        (if a1 = (3 : Int32) then
          some (gI S 2 0 4)
        else
          (if a1 = (4 : Int32) then
            bd_ (f_X6_allWeights E S) fun r1 =>
            some r1
          else
            (if a1 = (5 : Int32) then
              bd_ (f_X6_allClasses E S) fun r2 =>
              some r2
            else
              some (-2 : Int32)))))))
/-! X6_sheet -/
def f_X6_sheet_b35 (E : EN) (S : ST) (v2 : Int32) (v4 : Nat) (t0 : Int32) : Option (Int32 × ST) :=
  (if t0 ≤ (40 : Int32) then
    (if 0 ≤ t0 then
      bd_ (f_X4_becomes E v4 S v2 t0) fun S1 =>
      some ((1 : Int32), S1)
    else
      some ((-14 : Int32), S))
  else
    some ((-2 : Int32), S))
def f_X6_sheet (E : EN) (S : ST) (a1 : Int32) (a2 : Int32) (a3 : Int32) : Option (Int32 × ST) :=
  bd_ (f_X6_laid E S a1) fun r2 =>
  nl_ r2
    (some ((-2 : Int32), S))
    fun k3 => ck_ (decide (k3 < 4)) <|
    (if a2 < (-1 : Int32) then
      some ((-2 : Int32), S)
    else
      (if a2 ≤ (2 : Int32) then
        (if a2 = (-1 : Int32) then
          f_X6_sheet_b35 E S a2 k3 (0 : Int32)
        else
          f_X6_sheet_b35 E S a2 k3 a3)
      else
        some ((-2 : Int32), S)))
/-! X6_cell -/
def f_X6_cell (E : EN) (S : ST) (a1 : Int32) (a2 : Int32) (a3 : Int32) : Option (Int32 × ST) :=
  bd_ (f_X6_laid E S a1) fun r1 =>
  nl_ r1
    (some ((-2 : Int32), S))
    fun k2 => ck_ (decide (k2 < 4)) <|
    (if (gI S 24 k2 0) = (-1 : Int32) then
      some ((-11 : Int32), S)
    else
      (if a2 < 0 then
        some ((-12 : Int32), S)
      else
        (if a2 < (gI S 24 k2 1) then
          bd_ (f_X4_cutDown E k2 S a3) fun r4 =>
          ck_ (ib_ a2 40) <|
          lt_ (sI S 25 k2 a2.toNatClampNeg r4) fun S6 =>
          some ((1 : Int32), S6)
        else
          some ((-12 : Int32), S))))
/-! X6_copy -/
def f_X6_copy (E : EN) (S : ST) (a1 : Int32) (a2 : Int32) (a3 : Int32) (a4 : Int32) (a5 : Int32) : Option (Int32 × ST) :=
  bd_ (f_X6_laid E S a1) fun r1 =>
  nl_ r1
    (bd_ (f_X6_laid E S a3) fun r4 =>
    nl_ r4
      (some ((-2 : Int32), S))
      fun k5 => ck_ (decide (k5 < 4)) <|
      some ((-2 : Int32), S))
    fun k2 => ck_ (decide (k2 < 4)) <|
    bd_ (f_X6_laid E S a3) fun r7 =>
    nl_ r7
      (some ((-2 : Int32), S))
      fun k8 => ck_ (decide (k8 < 4)) <|
      (if (gI S 24 k2 0) = (-1 : Int32) then
        some ((-11 : Int32), S)
      else
        (if (gI S 24 k8 0) = (-1 : Int32) then
          some ((-11 : Int32), S)
        else
          (if (gI S 24 k2 0) = (gI S 24 k8 0) then
            (if a5 < 0 then
              some ((-12 : Int32), S)
            else
              (if a2 < 0 then
                some ((-12 : Int32), S)
              else
                (if a4 < 0 then
                  some ((-12 : Int32), S)
                else
                  (if ((gI S 24 k2 1) - a5) < a2 then
                    some ((-12 : Int32), S)
                  else
                    (if a4 ≤ ((gI S 24 k8 1) - a5) then
                      ck_ (!decide (a2 < 0)) <|
                      ck_ (!decide (a4 < 0)) <|
                      ck_ (!decide (a5 < 0)) <|
                      ck_ (decide (a2.toNatClampNeg + a5.toNatClampNeg ≤ 40)) <|
                      ck_ (decide (a4.toNatClampNeg + a5.toNatClampNeg ≤ 40)) <|
                      lt_ (aI S 25 k8 (va_cpy (S.1 25 k2) (S.1 25 k8) a2.toNatClampNeg a4.toNatClampNeg a5.toNatClampNeg)) fun S15 =>
                      some (a5, S15)
                    else
                      some ((-12 : Int32), S))))))
          else
            some ((-13 : Int32), S))))
/-! X6_isUnder -/
def g_X6_isUnder_b4 (E : EN) (kh4 : ST → Int32 → Int32 → Int32 → Option Int32) (S : ST) (v1 : Int32) (v2 : Int32) (v3 : Int32) : Option Int32 :=
  (if (6 : Int32) ≤ v3 then
    some (0 : Int32)
  else
    (if v2 < 0 then
      some (0 : Int32)
    else
      (if (6 : Int32) ≤ v2 then
        some (0 : Int32)
      else
        (if v2 = v1 then
          some (1 : Int32)
        else
          ck_ (ib_ v2 6) <|
          lt_ (pR_ v2.toNatClampNeg) fun x2 =>
          lt_ (v3 + (1 : Int32)) fun x3 =>
          kh4 S v1 x2 x3))))
def f_X6_isUnder_b4 (E : EN) (n : Nat) : ST → Int32 → Int32 → Int32 → Option Int32 := fx_ (fun _ _ _ _ => none) (g_X6_isUnder_b4 E) n
def f_X6_isUnder (E : EN) (S : ST) (a1 : Int32) (a2 : Int32) : Option Int32 :=
  f_X6_isUnder_b4 E E.1 S a2 a1 (0 : Int32)
/-! X6_taken -/
def f_X6_taken (E : EN) (S : ST) (a1 : Int32) (a2 : Int32) : Option Int32 :=
  (if a2 < 0 then
    some (-2 : Int32)
  else
    (if a2 < (6 : Int32) then
      bd_ (f_X6_known E S a1) fun r1 =>
      nl_ r1
        (some (-11 : Int32))
        fun k2 => ck_ (decide (k2 < E.2.1)) <|
        bd_ (f_X6_isUnder E S (gI S 20 k2 0) a2) fun r4 =>
        (if r4 = 0 then
          some (-13 : Int32)
        else
          some (gI S 20 k2 2))
    else
      some (-2 : Int32)))
/-! X7_in -/
def f_X7_in (E : EN) (S : ST) (a1 : Int32) (a2 : Int32) (a3 : Int32) : Option Int32 :=
  (if a1 < a2 then
    some (0 : Int32)
  else
    (if a3 < a1 then
      some (0 : Int32)
    else
      some (1 : Int32)))
/-! X7_isPupil -/
def f_X7_isPupil (E : EN) (S : ST) (a1 : Int32) : Option Int32 :=
  bd_ (f_X7_in E S a1 (0 : Int32) ((gI S 1 0 0) - (1 : Int32))) fun r1 =>
  ck_ (ob_ r1) <|
  some r1
/-! X7_isNew -/
def f_X7_isNew (E : EN) (S : ST) (a1 : Int32) (a2 : Int32) : Option Int32 :=
  bd_ (f_X7_in E S a1 (0 : Int32) (5 : Int32)) fun r1 =>
  (if r1 = 0 then
    some (0 : Int32)
  else
    bd_ (f_X7_in E S a2 (0 : Int32) (439 : Int32)) fun r2 =>
    (if r2 = 0 then
      some (0 : Int32)
    else
      (if (4 : Int32) ≤ (rmI (a2 / (10 : Int32)) (10 : Int32)) then
        some (0 : Int32)
      else
        some (1 : Int32))))
/-! X7_comes -/
def f_X7_comes_b87 (E : EN) (S : ST)  : Option ST :=
  lt_ (sI S 1 0 0 ((gI S 1 0 0) + (1 : Int32))) fun S1 =>
  some S1
def f_X7_comes_b80 (E : EN) (kh54 : ST → Int32 → Option ST) (S : ST) (v3 : Int32) (t0 : Int32) (t1 : Int32) : Option ST :=
  ck_ (ib_ t1 40) <|
  lt_ (sI S 45 0 t1.toNatClampNeg t0) fun S3 =>
  lt_ (v3 + (1 : Int32)) fun x4 =>
  kh54 S3 x4
def g_X7_comes_b54 (E : EN) (kh54 : ST → Int32 → Option ST) (S : ST) (v3 : Int32) : Option ST :=
  (if (5 : Int32) ≤ v3 then
    f_X7_comes_b87 E S
  else
    (if v3 = 0 then
      f_X7_comes_b80 E kh54 S v3 (1 : Int32) (((5 : Int32) * (gI S 1 0 0)) + v3)
    else
      f_X7_comes_b80 E kh54 S v3 (0 : Int32) (((5 : Int32) * (gI S 1 0 0)) + v3)))
def f_X7_comes_b54 (E : EN) (n : Nat) : ST → Int32 → Option ST := fx_ (fun _ _ => none) (g_X7_comes_b54 E) n
def f_X7_comes (E : EN) (S : ST) (a1 : Int32) (a2 : Int32) : Option ST :=
  ck_ (ib_ (gI S 1 0 0) 8) <|
  lt_ (sI S 41 0 (gI S 1 0 0).toNatClampNeg a1) fun S6 =>
  ck_ (ib_ (gI S6 1 0 0) 8) <|
  lt_ (sI S6 42 0 (gI S6 1 0 0).toNatClampNeg (a2 / (100 : Int32))) fun S8 =>
  ck_ (ib_ (gI S8 1 0 0) 8) <|
  lt_ (sI S8 43 0 (gI S8 1 0 0).toNatClampNeg (rmI (a2 / (10 : Int32)) (10 : Int32))) fun S10 =>
  ck_ (ib_ (gI S10 1 0 0) 8) <|
  lt_ (sI S10 44 0 (gI S10 1 0 0).toNatClampNeg (rmI a2 (10 : Int32))) fun S12 =>
  f_X7_comes_b54 E E.1 S12 (0 : Int32)
/-! X7_pupil -/
def f_X7_pupil (E : EN) (S : ST) (a1 : Int32) (a2 : Int32) : Option (Int32 × ST) :=
  bd_ (f_X7_isNew E S a1 a2) fun r1 =>
  (if r1 = 0 then
    some ((-2 : Int32), S)
  else
    (if (gI S 1 0 0) = (8 : Int32) then
      some ((-4 : Int32), S)
    else
      bd_ (f_X7_comes E S a1 a2) fun S2 =>
      some ((gI S2 1 0 0) - (1 : Int32), S2)))
/-! X7_sumOf -/
def g_X7_sumOf_b4 (E : EN) (kh4 : ST → Int32 → Int32 → Int32 → Option Int32) (S : ST) (v1 : Int32) (v2 : Int32) (v3 : Int32) : Option Int32 :=
  (if (5 : Int32) ≤ v3 then
    some v2
  else
    ck_ (ib_ (((5 : Int32) * v1) + v3) 40) <|
    lt_ (v2 + (gI S 45 0 (((5 : Int32) * v1) + v3).toNatClampNeg)) fun x2 =>
    lt_ (v3 + (1 : Int32)) fun x3 =>
    kh4 S v1 x2 x3)
def f_X7_sumOf_b4 (E : EN) (n : Nat) : ST → Int32 → Int32 → Int32 → Option Int32 := fx_ (fun _ _ _ _ => none) (g_X7_sumOf_b4 E) n
def f_X7_sumOf (E : EN) (S : ST) (a1 : Int32) : Option Int32 :=
  f_X7_sumOf_b4 E E.1 S a1 (0 : Int32) (0 : Int32)
/-! X7_weigh -/
def g_X7_weigh_b34 (E : EN) (kh34 : ST → Int32 → Int32 → Int32 → Int32 → Option (Int32 × ST)) (S : ST) (v1 : Int32) (v3 : Int32) (v4 : Int32) (v5 : Int32) : Option (Int32 × ST) :=
  (if (5 : Int32) ≤ v5 then
    some (v3, S)
  else
    ck_ (ib_ (((5 : Int32) * v1) + v5) 40) <|
    lt_ (sI S 45 0 (((5 : Int32) * v1) + v5).toNatClampNeg (rmI v4 (10 : Int32))) fun S2 =>
    lt_ (v4 / (10 : Int32)) fun x3 =>
    lt_ (v5 + (1 : Int32)) fun x4 =>
    kh34 S2 v1 v3 x3 x4)
def f_X7_weigh_b34 (E : EN) (n : Nat) : ST → Int32 → Int32 → Int32 → Int32 → Option (Int32 × ST) := fx_ (fun _ _ _ _ _ => none) (g_X7_weigh_b34 E) n
def f_X7_weigh (E : EN) (S : ST) (a1 : Int32) (a2 : Int32) : Option (Int32 × ST) :=
  bd_ (f_X7_isPupil E S a1) fun r5 =>
  (if r5 = 0 then
    some ((-2 : Int32), S)
  else
    bd_ (f_X7_in E S a2 (1 : Int32) (99999 : Int32)) fun r6 =>
    (if r6 = 0 then
      some ((-2 : Int32), S)
    else
      bd_ (f_X7_sumOf E S a1) fun r7 =>
      f_X7_weigh_b34 E E.1 S a1 r7 a2 (0 : Int32)))
/-! X7_told -/
def f_X7_told (E : EN) (S : ST) (a1 : Int32) (a2 : Int32) : Option Int32 :=
  bd_ (f_X7_isPupil E S a1) fun r1 =>
  (if r1 = 0 then
    some (-5 : Int32)
  else
    bd_ (f_X7_in E S a2 (0 : Int32) (8 : Int32)) fun r2 =>
    (if r2 = 0 then
      some (-5 : Int32)
    else
      (if a2 = (0 : Int32) then
        ck_ (ib_ a1 8) <|
        some (gI S 41 0 a1.toNatClampNeg)
      else
        (if a2 = (1 : Int32) then
          ck_ (ib_ a1 8) <|
          some (gI S 42 0 a1.toNatClampNeg)
        else
          (if a2 = (2 : Int32) then
            ck_ (ib_ a1 8) <|
            some (gI S 43 0 a1.toNatClampNeg)
          else
            (if a2 = (3 : Int32) then
              ck_ (ib_ a1 8) <|
              some (gI S 44 0 a1.toNatClampNeg)
            else
              ck_ (ib_ ((((5 : Int32) * a1) + a2) - (4 : Int32)) 40) <|
              some (gI S 45 0 ((((5 : Int32) * a1) + a2) - (4 : Int32)).toNatClampNeg)))))))
/-! X7_feed -/
def f_X7_feed_b75 (E : EN) (S : ST)  : Option (Int32 × ST) :=
  some (gI S 1 0 8, S)
def g_X7_feed_b32 (E : EN) (kh32 : ST → Int32 → Int64 → Int32 → Option (Int32 × ST)) (S : ST) (v1 : Int32) (v2 : Int64) (v4 : Int32) : Option (Int32 × ST) :=
  (if v1 ≤ v4 then
    f_X7_feed_b75 E S
  else
    ck_ (ib_ (gI S 1 0 8) 160) <|
    lt_ (sI S 56 0 (gI S 1 0 8).toNatClampNeg (((v2 >>> (((8 : Int32) * v4).toInt64 &&& 63)) &&& (255 : Int64)).toInt32)) fun S2 =>
    lt_ (sI S2 1 0 8 ((gI S2 1 0 8) + (1 : Int32))) fun S3 =>
    lt_ (v4 + (1 : Int32)) fun x4 =>
    kh32 S3 v1 v2 x4)
def f_X7_feed_b32 (E : EN) (n : Nat) : ST → Int32 → Int64 → Int32 → Option (Int32 × ST) := fx_ (fun _ _ _ _ => none) (g_X7_feed_b32 E) n
def f_X7_feed (E : EN) (S : ST) (a1 : Int32) (a2 : Int64) : Option (Int32 × ST) :=
  bd_ (f_X7_in E S a1 (1 : Int32) (8 : Int32)) fun r5 =>
  (if r5 = 0 then
    some ((-2 : Int32), S)
  else
    (if ((gI S 1 0 8) + a1) ≤ (160 : Int32) then
      f_X7_feed_b32 E E.1 S a1 a2 (0 : Int32)
    else
      some ((-4 : Int32), S)))
/-! X7_byteAt -/
def f_X7_byteAt (E : EN) (S : ST) (a1 : Int32) : Option Int32 :=
  (if (gI S 1 0 8) ≤ a1 then
    some (-1 : Int32)
  else
    ck_ (ib_ a1 160) <|
    some (gI S 56 0 a1.toNatClampNeg))
/-! X7_isLetter -/
def f_X7_isLetter (E : EN) (S : ST) (a1 : Int32) : Option Int32 :=
  bd_ (f_X7_in E S a1 (97 : Int32) (122 : Int32)) fun r1 =>
  ck_ (ob_ r1) <|
  some r1
/-! X7_isDigit -/
def f_X7_isDigit (E : EN) (S : ST) (a1 : Int32) : Option Int32 :=
  bd_ (f_X7_in E S a1 (48 : Int32) (57 : Int32)) fun r1 =>
  ck_ (ob_ r1) <|
  some r1
/-! X7_isKey -/
def f_X7_isKey_b40 (E : EN) (S : ST)  : Option Int32 :=
  some (1 : Int32)
def f_X7_isKey (E : EN) (S : ST) (a1 : Int32) : Option Int32 :=
  (if a1 = (12748366 : Int32) then
    f_X7_isKey_b40 E S
  else
    (if a1 = (19176724 : Int32) then
      f_X7_isKey_b40 E S
    else
      (if a1 = (5572 : Int32) then
        f_X7_isKey_b40 E S
      else
        (if a1 = (498 : Int32) then
          f_X7_isKey_b40 E S
        else
          (if a1 = (1476 : Int32) then
            f_X7_isKey_b40 E S
          else
            (if a1 = (14836 : Int32) then
              f_X7_isKey_b40 E S
            else
              some (0 : Int32)))))))
/-! X7_nameOf -/
def f_X7_nameOf (E : EN) (S : ST) (a1 : Int32) : Option Int32 :=
  (if a1 = (643248 : Int32) then
    some (0 : Int32)
  else
    (if a1 = (3540595 : Int32) then
      some (1 : Int32)
    else
      (if a1 = (758955 : Int32) then
        some (2 : Int32)
      else
        (if a1 = (638548 : Int32) then
          some (3 : Int32)
        else
          (if a1 = (14145700 : Int32) then
            some (4 : Int32)
          else
            (if a1 = (398548 : Int32) then
              some (5 : Int32)
            else
              some (-1 : Int32)))))))
/-! X7_look -/
def f_X7_look_b26 (E : EN) (kh0 : ST → Option ST) (S : ST)  : Option ST :=
  lt_ (sI S 1 0 9 ((gI S 1 0 9) + (1 : Int32))) fun S1 =>
  kh0 S1
def f_X7_look_b379 (E : EN) (S : ST) (t0 : Int32) : Option ST :=
  lt_ (sI S 1 0 10 t0) fun S2 =>
  some S2
def f_X7_look_b365 (E : EN) (S : ST) (v1 : Int32) : Option ST :=
  f_X7_look_b379 E S v1
def f_X7_look_b310 (E : EN) (S : ST) (t0 : Int32) : Option ST :=
  lt_ (sI S 1 0 10 t0) fun S3 =>
  some S3
def f_X7_look_b304 (E : EN) (S : ST)  : Option ST :=
  f_X7_look_b310 E S (2 : Int32)
def f_X7_look_b278 (E : EN) (S : ST) (t0 : Int32) : Option ST :=
  lt_ (sI S 1 0 11 t0) fun S4 =>
  bd_ (f_X7_nameOf E S4 (gI S4 1 0 11)) fun r5 =>
  (if 0 ≤ r5 then
    f_X7_look_b304 E S4
  else
    bd_ (f_X7_isKey E S4 (gI S4 1 0 11)) fun r6 =>
    (if r6 = 0 then
      f_X7_look_b310 E S4 (-2 : Int32)
    else
      f_X7_look_b304 E S4))
def f_X7_look_b260 (E : EN) (S : ST)  : Option ST :=
  (if (gI S 1 0 12) ≤ (6 : Int32) then
    f_X7_look_b278 E S (gI S 1 0 11)
  else
    f_X7_look_b278 E S (0 : Int32))
def f_X7_look_b244 (E : EN) (kh186 : ST → Option ST) (S : ST) (t0 : Int32) : Option ST :=
  lt_ (sI S 1 0 11 t0) fun S7 =>
  lt_ (sI S7 1 0 12 ((gI S7 1 0 12) + (1 : Int32))) fun S8 =>
  kh186 S8
def g_X7_look_b186 (E : EN) (kh186 : ST → Option ST) (S : ST)  : Option ST :=
  bd_ (f_X7_byteAt E S ((gI S 1 0 9) + (gI S 1 0 12))) fun r9 =>
  bd_ (f_X7_isLetter E S r9) fun r10 =>
  (if r10 = 0 then
    f_X7_look_b260 E S
  else
    (if (6 : Int32) ≤ (gI S 1 0 12) then
      f_X7_look_b244 E kh186 S (0 : Int32)
    else
      bd_ (f_X7_byteAt E S ((gI S 1 0 9) + (gI S 1 0 12))) fun r11 =>
      f_X7_look_b244 E kh186 S ((((32 : Int32) * (gI S 1 0 11)) + r11) - (96 : Int32))))
def f_X7_look_b186 (E : EN) (n : Nat) : ST → Option ST := fx_ (fun _ => none) (g_X7_look_b186 E) n
def f_X7_look_b167 (E : EN) (S : ST) (t0 : Int32) : Option ST :=
  lt_ (sI S 1 0 10 t0) fun S12 =>
  some S12
def f_X7_look_b152 (E : EN) (S : ST)  : Option ST :=
  (if (gI S 1 0 12) ≤ (4 : Int32) then
    f_X7_look_b167 E S (1 : Int32)
  else
    f_X7_look_b167 E S (-2 : Int32))
def f_X7_look_b136 (E : EN) (kh76 : ST → Option ST) (S : ST) (t0 : Int32) : Option ST :=
  lt_ (sI S 1 0 11 t0) fun S13 =>
  lt_ (sI S13 1 0 12 ((gI S13 1 0 12) + (1 : Int32))) fun S14 =>
  kh76 S14
def g_X7_look_b76 (E : EN) (kh76 : ST → Option ST) (S : ST)  : Option ST :=
  bd_ (f_X7_byteAt E S ((gI S 1 0 9) + (gI S 1 0 12))) fun r15 =>
  bd_ (f_X7_isDigit E S r15) fun r16 =>
  (if r16 = 0 then
    f_X7_look_b152 E S
  else
    (if (4 : Int32) ≤ (gI S 1 0 12) then
      f_X7_look_b136 E kh76 S (gI S 1 0 11)
    else
      bd_ (f_X7_byteAt E S ((gI S 1 0 9) + (gI S 1 0 12))) fun r17 =>
      f_X7_look_b136 E kh76 S ((((10 : Int32) * (gI S 1 0 11)) + r17) - (48 : Int32))))
def f_X7_look_b76 (E : EN) (n : Nat) : ST → Option ST := fx_ (fun _ => none) (g_X7_look_b76 E) n
def f_X7_look_b39 (E : EN) (S : ST)  : Option ST :=
  bd_ (f_X7_byteAt E S (gI S 1 0 9)) fun r18 =>
  lt_ (sI S 1 0 12 (1 : Int32)) fun S19 =>
  lt_ (sI S19 1 0 11 (0 : Int32)) fun S20 =>
  bd_ (f_X7_isDigit E S20 r18) fun r21 =>
  (if r21 = 0 then
    bd_ (f_X7_isLetter E S20 r18) fun r22 =>
    (if r22 = 0 then
      (if r18 = (40 : Int32) then
        f_X7_look_b365 E S20 r18
      else
        (if r18 = (41 : Int32) then
          f_X7_look_b365 E S20 r18
        else
          (if r18 = (59 : Int32) then
            f_X7_look_b365 E S20 r18
          else
            (if r18 = (43 : Int32) then
              f_X7_look_b365 E S20 r18
            else
              (if r18 = (45 : Int32) then
                f_X7_look_b365 E S20 r18
              else
                (if r18 = (42 : Int32) then
                  f_X7_look_b365 E S20 r18
                else
                  (if r18 = (60 : Int32) then
                    f_X7_look_b365 E S20 r18
                  else
                    (if r18 = (61 : Int32) then
                      f_X7_look_b365 E S20 r18
                    else
                      (if 0 ≤ r18 then
                        f_X7_look_b379 E S20 (-2 : Int32)
                      else
                        f_X7_look_b379 E S20 (-1 : Int32))))))))))
    else
      lt_ (sI S20 1 0 12 (0 : Int32)) fun S23 =>
      f_X7_look_b186 E E.1 S23)
  else
    lt_ (sI S20 1 0 10 (1 : Int32)) fun S24 =>
    lt_ (sI S24 1 0 12 (0 : Int32)) fun S25 =>
    f_X7_look_b76 E E.1 S25)
def g_X7_look_b0 (E : EN) (kh0 : ST → Option ST) (S : ST)  : Option ST :=
  bd_ (f_X7_byteAt E S (gI S 1 0 9)) fun r26 =>
  (if r26 = (32 : Int32) then
    f_X7_look_b26 E kh0 S
  else
    bd_ (f_X7_byteAt E S (gI S 1 0 9)) fun r27 =>
    (if r27 = (10 : Int32) then
      f_X7_look_b26 E kh0 S
    else
      f_X7_look_b39 E S))
def f_X7_look_b0 (E : EN) (n : Nat) : ST → Option ST := fx_ (fun _ => none) (g_X7_look_b0 E) n
def f_X7_look (E : EN) (S : ST)  : Option ST :=
  f_X7_look_b0 E E.1 S
/-! X7_goOn -/
def f_X7_goOn (E : EN) (S : ST)  : Option ST :=
  lt_ (sI S 1 0 9 ((gI S 1 0 9) + (gI S 1 0 12))) fun S1 =>
  bd_ (f_X7_look E S1) fun S2 =>
  some S2
/-! X7_isWord -/
def f_X7_isWord (E : EN) (S : ST) (a1 : Int32) : Option Int32 :=
  (if (gI S 1 0 10) = (2 : Int32) then
    (if (gI S 1 0 11) = a1 then
      some (1 : Int32)
    else
      some (0 : Int32))
  else
    some (0 : Int32))
/-! X7_put -/
def f_X7_put (E : EN) (S : ST) (a1 : Int32) (a2 : Int32) : Option ST :=
  ck_ (ib_ (gI S 1 0 15) 2880) <|
  lt_ (sI S 57 0 (gI S 1 0 15).toNatClampNeg a1) fun S2 =>
  ck_ (ib_ (gI S2 1 0 15) 2880) <|
  lt_ (sI S2 58 0 (gI S2 1 0 15).toNatClampNeg a2) fun S4 =>
  lt_ (sI S4 1 0 15 ((gI S4 1 0 15) + (1 : Int32))) fun S5 =>
  some S5
/-! X7_top -/
def f_X7_top (E : EN) (S : ST)  : Option Int32 :=
  (if (gI S 1 0 14) ≤ 0 then
    some (-1 : Int32)
  else
    ck_ (ib_ ((gI S 1 0 14) - (1 : Int32)) 161) <|
    some (gI S 60 0 ((gI S 1 0 14) - (1 : Int32)).toNatClampNeg))
/-! X7_pushSign -/
def f_X7_pushSign (E : EN) (S : ST) (a1 : Int32) : Option ST :=
  ck_ (ib_ (gI S 1 0 14) 161) <|
  lt_ (sI S 60 0 (gI S 1 0 14).toNatClampNeg a1) fun S2 =>
  lt_ (sI S2 1 0 14 ((gI S2 1 0 14) + (1 : Int32))) fun S3 =>
  some S3
/-! X7_strength -/
def f_X7_strength_b38 (E : EN) (S : ST)  : Option Int32 :=
  some (4 : Int32)
def f_X7_strength_b54 (E : EN) (S : ST)  : Option Int32 :=
  some (5 : Int32)
def f_X7_strength (E : EN) (S : ST) (a1 : Int32) : Option Int32 :=
  (if a1 = (2 : Int32) then
    some (1 : Int32)
  else
    (if a1 = (3 : Int32) then
      some (2 : Int32)
    else
      (if a1 = (4 : Int32) then
        some (3 : Int32)
      else
        (if a1 = (5 : Int32) then
          f_X7_strength_b38 E S
        else
          (if a1 = (6 : Int32) then
            f_X7_strength_b38 E S
          else
            (if a1 = (7 : Int32) then
              f_X7_strength_b54 E S
            else
              (if a1 = (8 : Int32) then
                f_X7_strength_b54 E S
              else
                (if a1 = (9 : Int32) then
                  some (6 : Int32)
                else
                  (if a1 = (10 : Int32) then
                    some (7 : Int32)
                  else
                    some (0 : Int32))))))))))
/-! X7_settle -/
def f_X7_settle_b60 (E : EN) (kh0 : ST → Int32 → Option ST) (S : ST) (v1 : Int32) (v2 : Int32) (t0 : Int32) (t1 : Int32) : Option ST :=
  lt_ (sI S 1 0 13 (t1 - t0)) fun S1 =>
  bd_ (f_X7_put E S1 v2 (0 : Int32)) fun S2 =>
  kh0 S2 v1
def f_X7_settle_b55 (E : EN) (kh0 : ST → Int32 → Option ST) (S : ST) (v1 : Int32) (v2 : Int32) (t0 : Int32) : Option ST :=
  f_X7_settle_b60 E kh0 S v1 v2 (1 : Int32) t0
def g_X7_settle_b0 (E : EN) (kh0 : ST → Int32 → Option ST) (S : ST) (v1 : Int32) : Option ST :=
  (if (gI S 1 0 14) ≤ 0 then
    some S
  else
    bd_ (f_X7_top E S) fun r3 =>
    bd_ (f_X7_strength E S r3) fun r4 =>
    (if r4 < v1 then
      some S
    else
      lt_ (sI S 1 0 14 ((gI S 1 0 14) - (1 : Int32))) fun S5 =>
      ck_ (ib_ (gI S5 1 0 14) 161) <|
      lt_ (gI S5 60 0 (gI S5 1 0 14).toNatClampNeg) fun x7 =>
      (if x7 = (4 : Int32) then
        f_X7_settle_b55 E kh0 S5 v1 x7 (gI S5 1 0 13)
      else
        (if x7 = (10 : Int32) then
          f_X7_settle_b55 E kh0 S5 v1 x7 (gI S5 1 0 13)
        else
          f_X7_settle_b60 E kh0 S5 v1 x7 (0 : Int32) (gI S5 1 0 13)))))
def f_X7_settle_b0 (E : EN) (n : Nat) : ST → Int32 → Option ST := fx_ (fun _ _ => none) (g_X7_settle_b0 E) n
def f_X7_settle (E : EN) (S : ST) (a1 : Int32) : Option ST :=
  f_X7_settle_b0 E E.1 S a1
/-! X7_opens -/
def f_X7_opens (E : EN) (S : ST) (a1 : Int32) : Option (Int32 × ST) :=
  (if (gI S 1 0 13) = (5 : Int32) then
    some ((0 : Int32), S)
  else
    lt_ (sI S 1 0 13 ((gI S 1 0 13) + (1 : Int32))) fun S1 =>
    bd_ (f_X7_pushSign E S1 a1) fun S2 =>
    some ((1 : Int32), S2))
/-! X7_takesOne -/
def f_X7_takesOne_b64 (E : EN) (S : ST) (t0 : Int32) (t1 : Int32) : Option (Int32 × ST) :=
  bd_ (f_X7_put E S t1 t0) fun S1 =>
  bd_ (f_X7_settle E S1 (7 : Int32)) fun S2 =>
  some ((2 : Int32), S2)
def f_X7_takesOne_b41 (E : EN) (S : ST) (t0 : Int32) : Option (Int32 × ST) :=
  (if (gI S 1 0 10) = (1 : Int32) then
    f_X7_takesOne_b64 E S (gI S 1 0 11) t0
  else
    bd_ (f_X7_nameOf E S (gI S 1 0 11)) fun r3 =>
    f_X7_takesOne_b64 E S r3 t0)
def f_X7_takesOne_b27 (E : EN) (S : ST)  : Option (Int32 × ST) :=
  (if (gI S 1 0 10) = (1 : Int32) then
    f_X7_takesOne_b41 E S (0 : Int32)
  else
    f_X7_takesOne_b41 E S (1 : Int32))
def f_X7_takesOne_b75 (E : EN) (S : ST) (v1 : Int32) : Option (Int32 × ST) :=
  (if (gI S 1 0 10) = (45 : Int32) then
    bd2 (f_X7_opens E S (10 : Int32)) fun r9 S10 =>
    (if r9 = 0 then
      some ((0 : Int32), S10)
    else
      some ((1 : Int32), S10))
  else
    (if (gI S 1 0 10) = (40 : Int32) then
      bd2 (f_X7_opens E S (20 : Int32)) fun r7 S8 =>
      (if r7 = 0 then
        some ((0 : Int32), S8)
      else
        some ((1 : Int32), S8))
    else
      bd_ (f_X7_isWord E S (14836 : Int32)) fun r4 =>
      (if r4 = 0 then
        some ((0 : Int32), S)
      else
        (if v1 = 0 then
          some ((0 : Int32), S)
        else
          bd2 (f_X7_opens E S (4 : Int32)) fun r5 S6 =>
          (if r5 = 0 then
            some ((0 : Int32), S6)
          else
            some ((1 : Int32), S6))))))
def f_X7_takesOne (E : EN) (S : ST) (a1 : Int32) : Option (Int32 × ST) :=
  (if (gI S 1 0 10) = (1 : Int32) then
    f_X7_takesOne_b27 E S
  else
    (if (gI S 1 0 10) = (2 : Int32) then
      bd_ (f_X7_nameOf E S (gI S 1 0 11)) fun r11 =>
      (if r11 < 0 then
        f_X7_takesOne_b75 E S a1
      else
        f_X7_takesOne_b27 E S)
    else
      f_X7_takesOne_b75 E S a1))
/-! X7_takesSign -/
def f_X7_takesSign_b152 (E : EN) (S : ST) (v1 : Int32) : Option (Int32 × ST) :=
  bd_ (f_X7_pushSign E S v1) fun S1 =>
  some ((1 : Int32), S1)
def f_X7_takesSign_b138 (E : EN) (S : ST) (v1 : Int32) : Option (Int32 × ST) :=
  bd_ (f_X7_top E S) fun r2 =>
  bd_ (f_X7_strength E S r2) fun r3 =>
  (if r3 = (4 : Int32) then
    some ((0 : Int32), S)
  else
    f_X7_takesSign_b152 E S v1)
def f_X7_takesSign_b124 (E : EN) (S : ST) (v1 : Int32) (t0 : Int32) : Option (Int32 × ST) :=
  bd_ (f_X7_settle E S t0) fun S4 =>
  (if v1 = (5 : Int32) then
    f_X7_takesSign_b138 E S4 v1
  else
    (if v1 = (6 : Int32) then
      f_X7_takesSign_b138 E S4 v1
    else
      f_X7_takesSign_b152 E S4 v1))
def f_X7_takesSign_b115 (E : EN) (S : ST) (v1 : Int32) : Option (Int32 × ST) :=
  f_X7_takesSign_b124 E S v1 (5 : Int32)
def f_X7_takesSign_b98 (E : EN) (S : ST) (t0 : Int32) : Option (Int32 × ST) :=
  (if t0 < 0 then
    (if (gI S 1 0 10) = (41 : Int32) then
      bd_ (f_X7_settle E S (1 : Int32)) fun S5 =>
      bd_ (f_X7_top E S5) fun r6 =>
      (if r6 = (20 : Int32) then
        lt_ (sI S5 1 0 14 ((gI S5 1 0 14) - (1 : Int32))) fun S7 =>
        lt_ (sI S7 1 0 13 ((gI S7 1 0 13) - (1 : Int32))) fun S8 =>
        bd_ (f_X7_settle E S8 (7 : Int32)) fun S9 =>
        some ((2 : Int32), S9)
      else
        some ((0 : Int32), S5))
    else
      some ((0 : Int32), S))
  else
    (if t0 = (5 : Int32) then
      f_X7_takesSign_b115 E S t0
    else
      (if t0 = (6 : Int32) then
        f_X7_takesSign_b115 E S t0
      else
        bd_ (f_X7_strength E S t0) fun r10 =>
        f_X7_takesSign_b124 E S t0 r10)))
def f_X7_takesSign (E : EN) (S : ST)  : Option (Int32 × ST) :=
  (if (gI S 1 0 10) = (42 : Int32) then
    f_X7_takesSign_b98 E S (9 : Int32)
  else
    (if (gI S 1 0 10) = (43 : Int32) then
      f_X7_takesSign_b98 E S (7 : Int32)
    else
      (if (gI S 1 0 10) = (45 : Int32) then
        f_X7_takesSign_b98 E S (8 : Int32)
      else
        (if (gI S 1 0 10) = (60 : Int32) then
          f_X7_takesSign_b98 E S (5 : Int32)
        else
          (if (gI S 1 0 10) = (61 : Int32) then
            f_X7_takesSign_b98 E S (6 : Int32)
          else
            bd_ (f_X7_isWord E S (1476 : Int32)) fun r11 =>
            (if r11 = 0 then
              bd_ (f_X7_isWord E S (498 : Int32)) fun r12 =>
              (if r12 = 0 then
                f_X7_takesSign_b98 E S (-1 : Int32)
              else
                f_X7_takesSign_b98 E S (2 : Int32))
            else
              f_X7_takesSign_b98 E S (3 : Int32)))))))
/-! X7_takesE -/
def f_X7_takesE_b176 (E : EN) (kh19 : ST → Int32 → Int32 → Option (Int32 × ST)) (S : ST) (v3 : Int32) (t0 : Int32) : Option (Int32 × ST) :=
  bd_ (f_X7_goOn E S) fun S1 =>
  kh19 S1 t0 v3
def f_X7_takesE_b164 (E : EN) (kh19 : ST → Int32 → Int32 → Option (Int32 × ST)) (S : ST) (v7 : Int32) (t0 : Int32) : Option (Int32 × ST) :=
  (if v7 = (1 : Int32) then
    f_X7_takesE_b176 E kh19 S t0 (1 : Int32)
  else
    f_X7_takesE_b176 E kh19 S t0 (0 : Int32))
def f_X7_takesE_b154 (E : EN) (kh19 : ST → Int32 → Int32 → Option (Int32 × ST)) (S : ST) (v7 : Int32) : Option (Int32 × ST) :=
  f_X7_takesE_b164 E kh19 S v7 (1 : Int32)
def f_X7_takesE_b131 (E : EN) (kh19 : ST → Int32 → Int32 → Option (Int32 × ST)) (S : ST) (v2 : Int32) (v4 : Int32) (v5 : Int32) (v6 : Int32) (t0 : Int32) : Option (Int32 × ST) :=
  (if t0 = 0 then
    some ((0 : Int32), S)
  else
    (if v2 = 0 then
      f_X7_takesE_b164 E kh19 S t0 v6
    else
      (if v4 = 0 then
        (if v5 = 0 then
          f_X7_takesE_b164 E kh19 S t0 (0 : Int32)
        else
          f_X7_takesE_b154 E kh19 S t0)
      else
        f_X7_takesE_b154 E kh19 S t0)))
def f_X7_takesE_b113 (E : EN) (kh19 : ST → Int32 → Int32 → Option (Int32 × ST)) (S : ST) (v2 : Int32) (v3 : Int32) (v4 : Int32) (v5 : Int32) (t0 : Int32) : Option (Int32 × ST) :=
  (if v2 = 0 then
    bd2 (f_X7_takesSign E S) fun r2 S3 =>
    f_X7_takesE_b131 E kh19 S3 v2 v4 v5 t0 r2
  else
    bd2 (f_X7_takesOne E S v3) fun r4 S5 =>
    f_X7_takesE_b131 E kh19 S5 v2 v4 v5 t0 r4)
def f_X7_takesE_b98 (E : EN) (kh19 : ST → Int32 → Int32 → Option (Int32 × ST)) (S : ST) (v2 : Int32) (v3 : Int32) (v4 : Int32) (t0 : Int32) : Option (Int32 × ST) :=
  (if (gI S 1 0 10) = (2 : Int32) then
    f_X7_takesE_b113 E kh19 S v2 v3 v4 t0 (1 : Int32)
  else
    f_X7_takesE_b113 E kh19 S v2 v3 v4 t0 (0 : Int32))
def f_X7_takesE_b75 (E : EN) (kh19 : ST → Int32 → Int32 → Option (Int32 × ST)) (S : ST) (v2 : Int32) (v3 : Int32) : Option (Int32 × ST) :=
  bd_ (f_X7_isWord E S (14836 : Int32)) fun r6 =>
  (if (gI S 1 0 10) = (40 : Int32) then
    f_X7_takesE_b98 E kh19 S v2 v3 r6 (1 : Int32)
  else
    f_X7_takesE_b98 E kh19 S v2 v3 r6 (0 : Int32))
def f_X7_takesE_b48 (E : EN) (S : ST)  : Option (Int32 × ST) :=
  bd_ (f_X7_settle E S (1 : Int32)) fun S7 =>
  (if (gI S7 1 0 14) = 0 then
    (if (gI S7 1 0 10) = (59 : Int32) then
      some ((1 : Int32), S7)
    else
      some ((0 : Int32), S7))
  else
    some ((0 : Int32), S7))
def g_X7_takesE_b19 (E : EN) (kh19 : ST → Int32 → Int32 → Option (Int32 × ST)) (S : ST) (v2 : Int32) (v3 : Int32) : Option (Int32 × ST) :=
  (if v2 = 0 then
    (if (gI S 1 0 10) = (41 : Int32) then
      f_X7_takesE_b75 E kh19 S v2 v3
    else
      (if (gI S 1 0 10) = (59 : Int32) then
        f_X7_takesE_b48 E S
      else
        (if 0 ≤ (gI S 1 0 10) then
          f_X7_takesE_b75 E kh19 S v2 v3
        else
          f_X7_takesE_b48 E S)))
  else
    f_X7_takesE_b75 E kh19 S v2 v3)
def f_X7_takesE_b19 (E : EN) (n : Nat) : ST → Int32 → Int32 → Option (Int32 × ST) := fx_ (fun _ _ _ => none) (g_X7_takesE_b19 E) n
def f_X7_takesE (E : EN) (S : ST) (a1 : Int32) : Option (Int32 × ST) :=
  lt_ (sI S 1 0 15 a1) fun S8 =>
  lt_ (sI S8 1 0 14 (0 : Int32)) fun S9 =>
  lt_ (sI S9 1 0 13 (0 : Int32)) fun S10 =>
  f_X7_takesE_b19 E E.1 S10 (1 : Int32) (1 : Int32)
/-! X7_takesPart -/
def f_X7_takesPart (E : EN) (S : ST) (a1 : Int32) (a2 : Int32) (a3 : Int32) : Option (Int32 × ST) :=
  bd_ (f_X7_isWord E S a3) fun r1 =>
  (if r1 = 0 then
    some ((0 : Int32), S)
  else
    bd_ (f_X7_goOn E S) fun S2 =>
    lt_ (((480 : Int32) * a1) + ((160 : Int32) * a2)) fun x3 =>
    bd2 (f_X7_takesE E S2 x3) fun r4 S5 =>
    (if r4 = 0 then
      some ((0 : Int32), S5)
    else
      ck_ (ib_ (((3 : Int32) * a1) + a2) 18) <|
      lt_ (sI S5 59 0 (((3 : Int32) * a1) + a2).toNatClampNeg ((gI S5 1 0 15) - x3)) fun S7 =>
      bd_ (f_X7_goOn E S7) fun S8 =>
      some ((1 : Int32), S8)))
/-! X7_text -/
def f_X7_text_b77 (E : EN) (S : ST) (t0 : Int32) : Option (Int32 × ST) :=
  lt_ (sI S 1 0 8 (0 : Int32)) fun S1 =>
  (if t0 = 0 then
    some ((-100 : Int32) - (gI S1 1 0 9), S1)
  else
    lt_ (sI S1 1 0 6 ((gI S1 1 0 6) + (1 : Int32))) fun S2 =>
    some ((gI S2 1 0 6) - (1 : Int32), S2))
def f_X7_text_b76 (E : EN) (S : ST)  : Option (Int32 × ST) :=
  f_X7_text_b77 E S (0 : Int32)
def f_X7_text (E : EN) (S : ST)  : Option (Int32 × ST) :=
  (if (gI S 1 0 6) = (6 : Int32) then
    some ((-4 : Int32), S)
  else
    lt_ (sI S 1 0 9 (0 : Int32)) fun S3 =>
    bd_ (f_X7_look E S3) fun S4 =>
    bd2 (f_X7_takesPart E S4 (gI S4 1 0 6) (0 : Int32) (12748366 : Int32)) fun r5 S6 =>
    (if r5 = 0 then
      f_X7_text_b76 E S6
    else
      bd2 (f_X7_takesPart E S6 (gI S6 1 0 6) (1 : Int32) (19176724 : Int32)) fun r7 S8 =>
      (if r7 = 0 then
        f_X7_text_b76 E S8
      else
        bd2 (f_X7_takesPart E S8 (gI S8 1 0 6) (2 : Int32) (5572 : Int32)) fun r9 S10 =>
        (if r9 = 0 then
          f_X7_text_b76 E S10
        else
          (if (gI S10 1 0 10) = (-1 : Int32) then
            f_X7_text_b77 E S10 (1 : Int32)
          else
            f_X7_text_b76 E S10)))))
/-! X7_force -/
def f_X7_force (E : EN) (S : ST) (a1 : Int32) : Option (Int32 × ST) :=
  bd_ (f_X7_in E S a1 (0 : Int32) ((gI S 1 0 6) - (1 : Int32))) fun r1 =>
  (if r1 = 0 then
    some ((-2 : Int32), S)
  else
    lt_ (gI S 1 0 7) fun x2 =>
    lt_ (sI S 1 0 7 a1) fun S3 =>
    some (x2, S3))
/-! X7_done -/
def f_X7_done_b52 (E : EN) (S : ST)  : Option Int32 :=
  some (1 : Int32)
def f_X7_done (E : EN) (S : ST) (a1 : Int32) (a2 : Int32) (a3 : Int32) : Option Int32 :=
  (if a1 = (2 : Int32) then
    (if a2 = 0 then
      (if a3 = 0 then
        some (0 : Int32)
      else
        f_X7_done_b52 E S)
    else
      f_X7_done_b52 E S)
  else
    (if a1 = (3 : Int32) then
      (if a2 = 0 then
        some (0 : Int32)
      else
        (if a3 = 0 then
          some (0 : Int32)
        else
          some (1 : Int32)))
    else
      (if a1 = (5 : Int32) then
        (if a3 ≤ a2 then
          some (0 : Int32)
        else
          some (1 : Int32))
      else
        (if a1 = (6 : Int32) then
          (if a2 = a3 then
            some (1 : Int32)
          else
            some (0 : Int32))
        else
          (if a1 = (7 : Int32) then
            some (a2 + a3)
          else
            (if a1 = (8 : Int32) then
              some (a2 - a3)
            else
              some (a2 * a3)))))))
/-! X7_tellsRule -/
def f_X7_tellsRule_b195 (E : EN) (S : ST)  : Option (Int32 × ST) :=
  some (gI S 61 0 0, S)
def f_X7_tellsRule_b189 (E : EN) (kh20 : ST → Int32 → Int32 → Int32 → Int32 → Option (Int32 × ST)) (S : ST) (v1 : Int32) (v2 : Int32) (v3 : Int32) (v4 : Int32) : Option (Int32 × ST) :=
  lt_ (v4 + (1 : Int32)) fun x1 =>
  kh20 S v1 v2 v3 x1
def f_X7_tellsRule_b92 (E : EN) (kh20 : ST → Int32 → Int32 → Int32 → Int32 → Option (Int32 × ST)) (S : ST) (v1 : Int32) (v2 : Int32) (v3 : Int32) (v4 : Int32) (t0 : Int32) (t1 : Int32) : Option (Int32 × ST) :=
  ck_ (ib_ t1 161) <|
  lt_ (sI S 61 0 t1.toNatClampNeg t0) fun S3 =>
  lt_ (v3 + (1 : Int32)) fun x4 =>
  f_X7_tellsRule_b189 E kh20 S3 v1 v2 x4 v4
def f_X7_tellsRule_b60 (E : EN) (kh20 : ST → Int32 → Int32 → Int32 → Int32 → Option (Int32 × ST)) (S : ST) (v1 : Int32) (v2 : Int32) (v3 : Int32) (v4 : Int32) (v5 : Int32) : Option (Int32 × ST) :=
  (if v5 = 0 then
    ck_ (ib_ v4 2880) <|
    f_X7_tellsRule_b92 E kh20 S v1 v2 v3 v4 (gI S 58 0 v4.toNatClampNeg) v3
  else
    ck_ (ib_ v4 2880) <|
    ck_ (ib_ (gI S 58 0 v4.toNatClampNeg) 6) <|
    f_X7_tellsRule_b92 E kh20 S v1 v2 v3 v4 (gI S 62 0 (gI S 58 0 v4.toNatClampNeg).toNatClampNeg) v3)
def f_X7_tellsRule_b154 (E : EN) (kh20 : ST → Int32 → Int32 → Int32 → Int32 → Option (Int32 × ST)) (S : ST) (v1 : Int32) (v2 : Int32) (v3 : Int32) (v4 : Int32) (t0 : Int32) (t1 : Int32) : Option (Int32 × ST) :=
  ck_ (ib_ t1 161) <|
  lt_ (sI S 61 0 t1.toNatClampNeg t0) fun S9 =>
  f_X7_tellsRule_b189 E kh20 S9 v1 v2 v3 v4
def f_X7_tellsRule_b112 (E : EN) (kh20 : ST → Int32 → Int32 → Int32 → Int32 → Option (Int32 × ST)) (S : ST) (v1 : Int32) (v2 : Int32) (v3 : Int32) (v4 : Int32) (v5 : Int32) : Option (Int32 × ST) :=
  (if v5 = (10 : Int32) then
    ck_ (ib_ (v3 - (1 : Int32)) 161) <|
    f_X7_tellsRule_b154 E kh20 S v1 v2 v3 v4 (-(gI S 61 0 (v3 - (1 : Int32)).toNatClampNeg)) (v3 - (1 : Int32))
  else
    ck_ (ib_ (v3 - (1 : Int32)) 161) <|
    (if (gI S 61 0 (v3 - (1 : Int32)).toNatClampNeg) = 0 then
      f_X7_tellsRule_b154 E kh20 S v1 v2 v3 v4 (1 : Int32) (v3 - (1 : Int32))
    else
      f_X7_tellsRule_b154 E kh20 S v1 v2 v3 v4 (0 : Int32) (v3 - (1 : Int32))))
def g_X7_tellsRule_b20 (E : EN) (kh20 : ST → Int32 → Int32 → Int32 → Int32 → Option (Int32 × ST)) (S : ST) (v1 : Int32) (v2 : Int32) (v3 : Int32) (v4 : Int32) : Option (Int32 × ST) :=
  ck_ (ib_ (((3 : Int32) * (gI S 1 0 7)) + v1) 18) <|
  (if (v2 + (gI S 59 0 (((3 : Int32) * (gI S 1 0 7)) + v1).toNatClampNeg)) ≤ v4 then
    f_X7_tellsRule_b195 E S
  else
    ck_ (ib_ v4 2880) <|
    lt_ (gI S 57 0 v4.toNatClampNeg) fun x14 =>
    (if x14 = 0 then
      f_X7_tellsRule_b60 E kh20 S v1 v2 v3 v4 x14
    else
      (if x14 = (1 : Int32) then
        f_X7_tellsRule_b60 E kh20 S v1 v2 v3 v4 x14
      else
        (if x14 = (4 : Int32) then
          f_X7_tellsRule_b112 E kh20 S v1 v2 v3 v4 x14
        else
          (if x14 = (10 : Int32) then
            f_X7_tellsRule_b112 E kh20 S v1 v2 v3 v4 x14
          else
            lt_ (v3 + (-1 : Int32)) fun x15 =>
            ck_ (ib_ (x15 - (1 : Int32)) 161) <|
            ck_ (ib_ x15 161) <|
            bd_ (f_X7_done E S x14 (gI S 61 0 (x15 - (1 : Int32)).toNatClampNeg) (gI S 61 0 x15.toNatClampNeg)) fun r18 =>
            lt_ (sI S 61 0 (x15 - (1 : Int32)).toNatClampNeg r18) fun S19 =>
            f_X7_tellsRule_b189 E kh20 S19 v1 v2 x15 v4)))))
def f_X7_tellsRule_b20 (E : EN) (n : Nat) : ST → Int32 → Int32 → Int32 → Int32 → Option (Int32 × ST) := fx_ (fun _ _ _ _ _ => none) (g_X7_tellsRule_b20 E) n
def f_X7_tellsRule (E : EN) (S : ST) (a1 : Int32) : Option (Int32 × ST) :=
  lt_ (((480 : Int32) * (gI S 1 0 7)) + ((160 : Int32) * a1)) fun x20 =>
  f_X7_tellsRule_b20 E E.1 S a1 x20 (0 : Int32) x20
/-! X7_bounded -/
def f_X7_bounded_b88 (E : EN) (S : ST) (v7 : Int32) (t0 : Int32) : Option (Int32 × ST) :=
  (if 0 ≤ v7 then
    (if v7 ≤ t0 then
      some (v7, S)
    else
      some (t0, S))
  else
    some ((0 : Int32), S))
def f_X7_bounded_b66 (E : EN) (S : ST) (v6 : Int32) (t0 : Int32) (t1 : Int32) : Option (Int32 × ST) :=
  ck_ (ib_ t1 6) <|
  lt_ (sI S 62 0 t1.toNatClampNeg t0) fun S2 =>
  bd2 (f_X7_tellsRule E S2 v6) fun r3 S4 =>
  (if v6 = (2 : Int32) then
    f_X7_bounded_b88 E S4 r3 (99 : Int32)
  else
    f_X7_bounded_b88 E S4 r3 (10 : Int32))
def f_X7_bounded_b12 (E : EN) (S : ST) (v1 : Int32) (v2 : Int32) (v3 : Int32) (v4 : Int32) (v5 : Int32) (v6 : Int32) : Option (Int32 × ST) :=
  lt_ (sI S 62 0 0 v1) fun S5 =>
  lt_ (sI S5 62 0 1 v2) fun S6 =>
  lt_ (sI S6 62 0 2 v3) fun S7 =>
  lt_ (sI S7 62 0 3 v4) fun S8 =>
  lt_ (sI S8 62 0 4 v5) fun S9 =>
  (if v3 ≤ (4 : Int32) then
    f_X7_bounded_b66 E S9 v6 ((4 : Int32) - v3) (5 : Int32)
  else
    f_X7_bounded_b66 E S9 v6 (0 : Int32) (5 : Int32))
def f_X7_bounded (E : EN) (S : ST) (a1 : Int32) (a2 : Int32) (a3 : Int32) (a4 : Int32) (a5 : Int32) (a6 : Int32) : Option (Int32 × ST) :=
  (if a6 = 0 then
    (if a1 = (4 : Int32) then
      some ((0 : Int32), S)
    else
      f_X7_bounded_b12 E S a1 a2 a3 a4 a5 a6)
  else
    f_X7_bounded_b12 E S a1 a2 a3 a4 a5 a6)
/-! X7_says -/
def f_X7_says (E : EN) (S : ST) (a1 : Int32) (a2 : Int32) (a3 : Int32) : Option (Int32 × ST) :=
  bd_ (f_X7_in E S a1 (0 : Int32) (445 : Int32)) fun r1 =>
  (if r1 = 0 then
    some ((-2 : Int32), S)
  else
    (if (4 : Int32) < (rmI (a1 / (10 : Int32)) (10 : Int32)) then
      some ((-2 : Int32), S)
    else
      (if (5 : Int32) < (rmI a1 (10 : Int32)) then
        some ((-2 : Int32), S)
      else
        bd_ (f_X7_in E S a2 (0 : Int32) (35 : Int32)) fun r2 =>
        (if r2 = 0 then
          some ((-2 : Int32), S)
        else
          (if (5 : Int32) < (rmI a2 (10 : Int32)) then
            some ((-2 : Int32), S)
          else
            bd_ (f_X7_in E S a3 (0 : Int32) (2 : Int32)) fun r3 =>
            (if r3 = 0 then
              some ((-2 : Int32), S)
            else
              bd2 (f_X7_bounded E S (a1 / (100 : Int32)) (rmI (a1 / (10 : Int32)) (10 : Int32)) (rmI a1 (10 : Int32)) (a2 / (10 : Int32)) (rmI a2 (10 : Int32)) a3) fun r4 S5 =>
              some (r4, S5)))))))
/-! X7_layRule -/
def f_X7_layRule_b148 (E : EN) (kh2 : ST → Int32 → Int32 → Option ST) (S : ST) (v1 : Int32) (v2 : Int32) : Option ST :=
  lt_ (v2 + (1 : Int32)) fun x1 =>
  kh2 S v1 x1
def f_X7_layRule_b142 (E : EN) (kh2 : ST → Int32 → Int32 → Option ST) (kh9 : ST → Int32 → Int32 → Int32 → Option ST) (S : ST) (v1 : Int32) (v2 : Int32) (v3 : Int32) : Option ST :=
  lt_ (v3 + (1 : Int32)) fun x2 =>
  kh9 S v1 v2 x2
def f_X7_layRule_b136 (E : EN) (kh2 : ST → Int32 → Int32 → Option ST) (kh9 : ST → Int32 → Int32 → Int32 → Option ST) (kh18 : ST → Int32 → Int32 → Int32 → Int32 → Option ST) (S : ST) (v1 : Int32) (v2 : Int32) (v3 : Int32) (v4 : Int32) : Option ST :=
  lt_ (v4 + (1 : Int32)) fun x3 =>
  kh18 S v1 v2 v3 x3
def g_X7_layRule_b54 (E : EN) (kh2 : ST → Int32 → Int32 → Option ST) (kh9 : ST → Int32 → Int32 → Int32 → Option ST) (kh18 : ST → Int32 → Int32 → Int32 → Int32 → Option ST) (kh54 : ST → Int32 → Int32 → Int32 → Int32 → Int32 → Option ST) (S : ST) (v1 : Int32) (v2 : Int32) (v3 : Int32) (v4 : Int32) (v5 : Int32) : Option ST :=
  (if (5 : Int32) ≤ v5 then
    f_X7_layRule_b136 E kh2 kh9 kh18 S v1 v2 v3 v4
  else
    bd2 (f_X7_bounded E S v4 v2 v5 v1 v3 (0 : Int32)) fun r4 S5 =>
    ck_ (ib_ (((((150 : Int32) * v5) + ((30 : Int32) * v2)) + ((5 : Int32) * v3)) + v4) 750) <|
    lt_ (sI S5 63 0 (((((150 : Int32) * v5) + ((30 : Int32) * v2)) + ((5 : Int32) * v3)) + v4).toNatClampNeg r4) fun S7 =>
    bd2 (f_X7_bounded E S7 v4 v2 v5 v1 v3 (1 : Int32)) fun r8 S9 =>
    lt_ (sI S9 64 0 (((((150 : Int32) * v5) + ((30 : Int32) * v2)) + ((5 : Int32) * v3)) + v4).toNatClampNeg r8) fun S10 =>
    lt_ (v5 + (1 : Int32)) fun x11 =>
    kh54 S10 v1 v2 v3 v4 x11)
def f_X7_layRule_b54 (E : EN) (kh2 : ST → Int32 → Int32 → Option ST) (kh9 : ST → Int32 → Int32 → Int32 → Option ST) (kh18 : ST → Int32 → Int32 → Int32 → Int32 → Option ST) (n : Nat) : ST → Int32 → Int32 → Int32 → Int32 → Int32 → Option ST := fx_ (fun _ _ _ _ _ _ => none) (g_X7_layRule_b54 E kh2 kh9 kh18) n
def g_X7_layRule_b18 (E : EN) (kh2 : ST → Int32 → Int32 → Option ST) (kh9 : ST → Int32 → Int32 → Int32 → Option ST) (kh18 : ST → Int32 → Int32 → Int32 → Int32 → Option ST) (S : ST) (v1 : Int32) (v2 : Int32) (v3 : Int32) (v4 : Int32) : Option ST :=
  (if (5 : Int32) ≤ v4 then
    f_X7_layRule_b142 E kh2 kh9 S v1 v2 v3
  else
    bd2 (f_X7_bounded E S v4 v2 (5 : Int32) v1 v3 (2 : Int32)) fun r12 S13 =>
    ck_ (ib_ ((((30 : Int32) * v2) + ((5 : Int32) * v3)) + v4) 150) <|
    lt_ (sI S13 65 0 ((((30 : Int32) * v2) + ((5 : Int32) * v3)) + v4).toNatClampNeg r12) fun S15 =>
    f_X7_layRule_b54 E kh2 kh9 kh18 E.1 S15 v1 v2 v3 v4 (0 : Int32))
def f_X7_layRule_b18 (E : EN) (kh2 : ST → Int32 → Int32 → Option ST) (kh9 : ST → Int32 → Int32 → Int32 → Option ST) (n : Nat) : ST → Int32 → Int32 → Int32 → Int32 → Option ST := fx_ (fun _ _ _ _ _ => none) (g_X7_layRule_b18 E kh2 kh9) n
def g_X7_layRule_b9 (E : EN) (kh2 : ST → Int32 → Int32 → Option ST) (kh9 : ST → Int32 → Int32 → Int32 → Option ST) (S : ST) (v1 : Int32) (v2 : Int32) (v3 : Int32) : Option ST :=
  (if (6 : Int32) ≤ v3 then
    f_X7_layRule_b148 E kh2 S v1 v2
  else
    f_X7_layRule_b18 E kh2 kh9 E.1 S v1 v2 v3 (0 : Int32))
def f_X7_layRule_b9 (E : EN) (kh2 : ST → Int32 → Int32 → Option ST) (n : Nat) : ST → Int32 → Int32 → Int32 → Option ST := fx_ (fun _ _ _ _ => none) (g_X7_layRule_b9 E kh2) n
def g_X7_layRule_b2 (E : EN) (kh2 : ST → Int32 → Int32 → Option ST) (S : ST) (v1 : Int32) (v2 : Int32) : Option ST :=
  (if (5 : Int32) ≤ v2 then
    some S
  else
    f_X7_layRule_b9 E kh2 E.1 S v1 v2 (0 : Int32))
def f_X7_layRule_b2 (E : EN) (n : Nat) : ST → Int32 → Int32 → Option ST := fx_ (fun _ _ _ => none) (g_X7_layRule_b2 E) n
def f_X7_layRule (E : EN) (S : ST) (a1 : Int32) : Option ST :=
  f_X7_layRule_b2 E E.1 S a1 (0 : Int32)
/-! X7_goWeek -/
def f_X7_goWeek_b129 (E : EN) (kh31 : ST → Int32 → Int32 → Int32 → Int64 → Int32 → Option ST) (S : ST) (v1 : Int32) (v2 : Int32) (v3 : Int32) (v4 : Int64) (v6 : Int32) (t0 : Int32) (t1 : Int64) (t2 : Int32) : Option ST :=
  ck_ (ib_ t2 30) <|
  lt_ (sL S 66 0 t2.toNatClampNeg (t1 * t0.toInt64)) fun S2 =>
  lt_ (v6 + (1 : Int32)) fun x3 =>
  kh31 S2 v1 v2 v3 v4 x3
def g_X7_goWeek_b31 (E : EN) (kh31 : ST → Int32 → Int32 → Int32 → Int64 → Int32 → Option ST) (S : ST) (v1 : Int32) (v2 : Int32) (v3 : Int32) (v4 : Int64) (v6 : Int32) : Option ST :=
  (if (5 : Int32) ≤ v6 then
    some S
  else
    ck_ (ib_ (((5 : Int32) * v1) + v6) 30) <|
    lt_ (gL S 66 0 (((5 : Int32) * v1) + v6).toNatClampNeg) fun x5 =>
    ck_ (ib_ (v3 + v6) 750) <|
    lt_ ((x5 * (((10 : Int32) - (gI S 63 0 (v3 + v6).toNatClampNeg)).toInt64)) + v4) fun x7 =>
    lt_ (x5 * ((gI S 63 0 (v3 + v6).toNatClampNeg).toInt64)) fun x8 =>
    (if v2 = (1 : Int32) then
      f_X7_goWeek_b129 E kh31 S v1 v2 v3 x8 v6 (gI S 64 0 (v3 + v6).toNatClampNeg) x7 ((((5 : Int32) * v1) + (5 : Int32)) + v6)
    else
      f_X7_goWeek_b129 E kh31 S v1 v2 v3 x8 v6 ((10 : Int32) - (gI S 64 0 (v3 + v6).toNatClampNeg)) x7 ((((5 : Int32) * v1) + (5 : Int32)) + v6)))
def f_X7_goWeek_b31 (E : EN) (n : Nat) : ST → Int32 → Int32 → Int32 → Int64 → Int32 → Option ST := fx_ (fun _ _ _ _ _ _ => none) (g_X7_goWeek_b31 E) n
def f_X7_goWeek (E : EN) (S : ST) (a1 : Int32) (a2 : Int32) : Option ST :=
  ck_ (ib_ a1 6) <|
  lt_ ((((150 : Int32) * a1) + ((30 : Int32) * (gI S 67 0 a1.toNatClampNeg))) + ((5 : Int32) * (gI S 68 0 a1.toNatClampNeg))) fun x10 =>
  f_X7_goWeek_b31 E E.1 S a1 a2 x10 (0 : Int64) (0 : Int32)
/-! X7_held -/
def f_X7_held (E : EN) (S : ST) (a1 : Int32) : Option Int32 :=
  (if 0 ≤ a1 then
    (if a1 ≤ (4 : Int32) then
      some a1
    else
      some (4 : Int32))
  else
    some (0 : Int32))
/-! X7_move -/
def f_X7_move_b79 (E : EN) (S : ST) (t0 : Int32) (t1 : Int32) (t2 : Int32) : Option ST :=
  ck_ (ib_ t2 6) <|
  lt_ (sI S 68 0 t2.toNatClampNeg (t1 + t0)) fun S2 =>
  some S2
def f_X7_move_b49 (E : EN) (S : ST) (v1 : Int32) (t0 : Int32) (t1 : Int32) : Option ST :=
  ck_ (ib_ t1 6) <|
  lt_ (sI S 69 0 t1.toNatClampNeg (vp_nar .boolean t0)) fun S4 =>
  ck_ (ib_ v1 6) <|
  ck_ (ib_ (v1 + (1 : Int32)) 6) <|
  (if (gI S4 69 0 (v1 + (1 : Int32)).toNatClampNeg) = 0 then
    f_X7_move_b79 E S4 (0 : Int32) (gI S4 68 0 v1.toNatClampNeg) (v1 + (1 : Int32))
  else
    f_X7_move_b79 E S4 (1 : Int32) (gI S4 68 0 v1.toNatClampNeg) (v1 + (1 : Int32)))
def f_X7_move (E : EN) (S : ST) (a1 : Int32) (a2 : Int32) : Option ST :=
  ck_ (ib_ a1 6) <|
  bd_ (f_X7_held E S ((gI S 67 0 a1.toNatClampNeg) + a2)) fun r8 =>
  ck_ (ib_ (a1 + (1 : Int32)) 6) <|
  lt_ (sI S 67 0 (a1 + (1 : Int32)).toNatClampNeg r8) fun S10 =>
  (if (gI S10 67 0 (a1 + (1 : Int32)).toNatClampNeg) = (gI S10 67 0 a1.toNatClampNeg) then
    f_X7_move_b49 E S10 a1 (0 : Int32) (a1 + (1 : Int32))
  else
    f_X7_move_b49 E S10 a1 (1 : Int32) (a1 + (1 : Int32)))
/-! X7_sumRow -/
def g_X7_sumRow_b5 (E : EN) (kh5 : ST → Int32 → Int64 → Int32 → Option Int64) (S : ST) (v1 : Int32) (v2 : Int64) (v4 : Int32) : Option Int64 :=
  (if (5 : Int32) ≤ v4 then
    some v2
  else
    ck_ (ib_ (((5 : Int32) * v1) + v4) 30) <|
    lt_ (v2 + (gL S 66 0 (((5 : Int32) * v1) + v4).toNatClampNeg)) fun x2 =>
    lt_ (v4 + (1 : Int32)) fun x3 =>
    kh5 S v1 x2 x3)
def f_X7_sumRow_b5 (E : EN) (n : Nat) : ST → Int32 → Int64 → Int32 → Option Int64 := fx_ (fun _ _ _ _ => none) (g_X7_sumRow_b5 E) n
def f_X7_sumRow (E : EN) (S : ST) (a1 : Int32) : Option Int64 :=
  f_X7_sumRow_b5 E E.1 S a1 (0 : Int64) (0 : Int32)
/-! X7_sumFrom -/
def g_X7_sumFrom_b5 (E : EN) (kh5 : ST → Int32 → Int64 → Int32 → Option Int64) (S : ST) (v1 : Int32) (v3 : Int64) (v5 : Int32) : Option Int64 :=
  (if (5 : Int32) ≤ v5 then
    some v3
  else
    ck_ (ib_ (((5 : Int32) * v1) + v5) 30) <|
    lt_ (v3 + (gL S 66 0 (((5 : Int32) * v1) + v5).toNatClampNeg)) fun x2 =>
    lt_ (v5 + (1 : Int32)) fun x3 =>
    kh5 S v1 x2 x3)
def f_X7_sumFrom_b5 (E : EN) (n : Nat) : ST → Int32 → Int64 → Int32 → Option Int64 := fx_ (fun _ _ _ _ => none) (g_X7_sumFrom_b5 E) n
def f_X7_sumFrom (E : EN) (S : ST) (a1 : Int32) (a2 : Int32) : Option Int64 :=
  f_X7_sumFrom_b5 E E.1 S a1 (0 : Int64) a2
/-! X7_moveOf -/
def f_X7_moveOf_b135 (E : EN) (S : ST) (v3 : Int32) (v5 : Int32) (v6 : Int32) : Option Int32 :=
  (if v5 = 0 then
    (if v6 = 0 then
      (if v3 ≤ 0 then
        some (0 : Int32)
      else
        some (-1 : Int32))
    else
      some (0 : Int32))
  else
    some (0 : Int32))
def f_X7_moveOf_b38 (E : EN) (S : ST) (v1 : Int32) (v2 : Int32) (v3 : Int32) (v5 : Int32) (t0 : Int32) : Option Int32 :=
  (if v1 = (0 : Int32) then
    (if v5 = 0 then
      some (0 : Int32)
    else
      some (1 : Int32))
  else
    (if v1 = (1 : Int32) then
      (if v5 = 0 then
        some (0 : Int32)
      else
        (if t0 = 0 then
          some (0 : Int32)
        else
          ck_ (ib_ v3 6) <|
          (if (gI S 69 0 v3.toNatClampNeg) = 0 then
            some (1 : Int32)
          else
            some (0 : Int32))))
    else
      (if v1 = (2 : Int32) then
        (if v2 ≤ 0 then
          some (0 : Int32)
        else
          ck_ (!decide (v2 = 0)) <|
          (if (rmI (v3 + (1 : Int32)) v2) = 0 then
            some (1 : Int32)
          else
            some (0 : Int32)))
      else
        (if v1 = (4 : Int32) then
          (if v5 = 0 then
            f_X7_moveOf_b135 E S v3 v5 t0
          else
            (if t0 = 0 then
              f_X7_moveOf_b135 E S v3 v5 t0
            else
              ck_ (ib_ v3 6) <|
              (if (gI S 69 0 v3.toNatClampNeg) = 0 then
                some (1 : Int32)
              else
                f_X7_moveOf_b135 E S v3 v5 t0)))
        else
          bd_ (f_X7_sumRow E S (v3 + (1 : Int32))) fun r4 =>
          ck_ (ib_ v3 6) <|
          bd_ (f_X7_sumFrom E S (v3 + (1 : Int32)) (gI S 67 0 v3.toNatClampNeg)) fun r6 =>
          (if r4 = (0 : Int64) then
            some (0 : Int32)
          else
            (if ((10 : Int64) * r6) < (v2.toInt64 * r4) then
              (if v1 = (5 : Int32) then
                (if (v2.toInt64 * r4) ≤ ((20 : Int64) * r6) then
                  some (0 : Int32)
                else
                  some (-1 : Int32))
              else
                some (0 : Int32))
            else
              some (1 : Int32)))))))
def f_X7_moveOf_b37 (E : EN) (S : ST) (v1 : Int32) (v2 : Int32) (v3 : Int32) (v5 : Int32) : Option Int32 :=
  f_X7_moveOf_b38 E S v1 v2 v3 v5 (0 : Int32)
def f_X7_moveOf_b15 (E : EN) (S : ST) (v1 : Int32) (v2 : Int32) (v3 : Int32) (v4 : Int32) (t0 : Int32) : Option Int32 :=
  (if v3 ≤ 0 then
    f_X7_moveOf_b37 E S v1 v2 v3 t0
  else
    (if ((v4 >>> ((v3 - (1 : Int32)) &&& 31)) &&& (1 : Int32)) = (1 : Int32) then
      f_X7_moveOf_b38 E S v1 v2 v3 t0 (1 : Int32)
    else
      f_X7_moveOf_b37 E S v1 v2 v3 t0))
def f_X7_moveOf (E : EN) (S : ST) (a1 : Int32) (a2 : Int32) (a3 : Int32) (a4 : Int32) : Option Int32 :=
  (if ((a4 >>> (a3 &&& 31)) &&& (1 : Int32)) = (1 : Int32) then
    f_X7_moveOf_b15 E S a1 a2 a3 a4 (1 : Int32)
  else
    f_X7_moveOf_b15 E S a1 a2 a3 a4 (0 : Int32))
/-! X7_begin -/
def f_X7_begin_b30 (E : EN) (S : ST) (v2 : Int32) : Option ST :=
  lt_ (sI S 67 0 0 v2) fun S1 =>
  lt_ (sI S1 68 0 0 (0 : Int32)) fun S2 =>
  lt_ (sI S2 69 0 0 (vp_nar .boolean (0 : Int32))) fun S3 =>
  lt_ (sI S3 1 0 30 (0 : Int32)) fun S4 =>
  some S4
def g_X7_begin_b2 (E : EN) (kh2 : ST → Int32 → Int32 → Int32 → Option ST) (S : ST) (v1 : Int32) (v2 : Int32) (v3 : Int32) : Option ST :=
  (if (5 : Int32) ≤ v3 then
    f_X7_begin_b30 E S v2
  else
    ck_ (ib_ (((5 : Int32) * v1) + v3) 40) <|
    ck_ (ib_ v3 30) <|
    lt_ (sL S 66 0 v3.toNatClampNeg ((gI S 45 0 (((5 : Int32) * v1) + v3).toNatClampNeg).toInt64)) fun S7 =>
    lt_ (v3 + (1 : Int32)) fun x8 =>
    kh2 S7 v1 v2 x8)
def f_X7_begin_b2 (E : EN) (n : Nat) : ST → Int32 → Int32 → Int32 → Option ST := fx_ (fun _ _ _ _ => none) (g_X7_begin_b2 E) n
def f_X7_begin (E : EN) (S : ST) (a1 : Int32) (a2 : Int32) : Option ST :=
  f_X7_begin_b2 E E.1 S a1 a2 (0 : Int32)
/-! X7_go -/
def g_X7_go_b9 (E : EN) (kh9 : ST → Int32 → Int32 → Int32 → Int32 → Int32 → Option ST) (S : ST) (v3 : Int32) (v4 : Int32) (v5 : Int32) (v6 : Int32) (v7 : Int32) : Option ST :=
  (if v5 ≤ v7 then
    some S
  else
    bd_ (f_X7_goWeek E S v7 ((v6 >>> (v7 &&& 31)) &&& (1 : Int32))) fun S1 =>
    bd_ (f_X7_moveOf E S1 v3 v4 v7 v6) fun r2 =>
    lt_ (sI S1 1 0 30 r2) fun S3 =>
    bd_ (f_X7_move E S3 v7 (gI S3 1 0 30)) fun S4 =>
    lt_ (v7 + (1 : Int32)) fun x5 =>
    kh9 S4 v3 v4 v5 v6 x5)
def f_X7_go_b9 (E : EN) (n : Nat) : ST → Int32 → Int32 → Int32 → Int32 → Int32 → Option ST := fx_ (fun _ _ _ _ _ _ => none) (g_X7_go_b9 E) n
def f_X7_go (E : EN) (S : ST) (a1 : Int32) (a2 : Int32) (a3 : Int32) (a4 : Int32) (a5 : Int32) (a6 : Int32) : Option ST :=
  bd_ (f_X7_begin E S a1 a2) fun S6 =>
  f_X7_go_b9 E E.1 S6 a3 a4 a5 a6 (0 : Int32)
/-! X7_areMarks -/
def f_X7_areMarks (E : EN) (S : ST) (a1 : Int32) : Option Int32 :=
  bd_ (f_X7_in E S a1 (0 : Int32) (531 : Int32)) fun r1 =>
  (if r1 = 0 then
    some (0 : Int32)
  else
    (if (6 : Int32) ≤ (a1 / (100 : Int32)) then
      some (0 : Int32)
    else
      (if ((1 : Int32) <<< ((a1 / (100 : Int32)) &&& 31)) ≤ (rmI a1 (100 : Int32)) then
        some (0 : Int32)
      else
        some (1 : Int32))))
/-! X7_goMarks -/
def f_X7_goMarks (E : EN) (S : ST) (a1 : Int32) (a2 : Int32) : Option ST :=
  ck_ (ib_ a1 8) <|
  bd_ (f_X7_layRule E S (gI S 43 0 a1.toNatClampNeg)) fun S2 =>
  bd_ (f_X7_go E S2 a1 (gI S2 42 0 a1.toNatClampNeg) (gI S2 41 0 a1.toNatClampNeg) (gI S2 44 0 a1.toNatClampNeg) (a2 / (100 : Int32)) (rmI a2 (100 : Int32))) fun S3 =>
  some S3
/-! X7_divisor -/
def g_X7_divisor_b17 (E : EN) (kh17 : ST → Int64 → Int64 → Option Int64) (S : ST) (v5 : Int64) (v7 : Int64) : Option Int64 :=
  (if v7 = (0 : Int64) then
    some v5
  else
    ck_ (!decide (v7 = 0)) <|
    lt_ (rmL v5 v7) fun x2 =>
    kh17 S v7 x2)
def f_X7_divisor_b17 (E : EN) (n : Nat) : ST → Int64 → Int64 → Option Int64 := fx_ (fun _ _ _ => none) (g_X7_divisor_b17 E) n
def f_X7_divisor_b12 (E : EN) (S : ST) (v3 : Int64) (t0 : Int64) : Option Int64 :=
  f_X7_divisor_b17 E E.1 S t0 v3
def f_X7_divisor (E : EN) (S : ST) (a1 : Int64) (a2 : Int64) : Option Int64 :=
  (if (0 : Int64) ≤ a1 then
    f_X7_divisor_b12 E S a2 a1
  else
    f_X7_divisor_b12 E S a2 (-a1))
/-! X7_lowest -/
def f_X7_lowest_b24 (E : EN) (S : ST) (v5 : Int32) (v6 : Int64) (t0 : Int64) : Option Int64 :=
  bd_ (f_X7_divisor E S v6 t0) fun r1 =>
  (if v5 = 0 then
    ck_ (!decide (r1 = 0)) <|
    some (v6 / r1)
  else
    ck_ (!decide (r1 = 0)) <|
    some (t0 / r1))
def f_X7_lowest_b11 (E : EN) (S : ST) (v3 : Int64) (v5 : Int32) (t0 : Int64) : Option Int64 :=
  (if v3 = (0 : Int64) then
    f_X7_lowest_b24 E S v5 t0 (1 : Int64)
  else
    f_X7_lowest_b24 E S v5 t0 v3)
def f_X7_lowest (E : EN) (S : ST) (a1 : Int64) (a2 : Int64) (a3 : Int32) : Option Int64 :=
  (if a2 = (0 : Int64) then
    f_X7_lowest_b11 E S a2 a3 (0 : Int64)
  else
    f_X7_lowest_b11 E S a2 a3 a1)
/-! X7_thought -/
def f_X7_thought (E : EN) (S : ST) (a1 : Int32) (a2 : Int32) (a3 : Int32) (a4 : Int32) : Option (Int64 × ST) :=
  bd_ (f_X7_isPupil E S a1) fun r1 =>
  (if r1 = 0 then
    some ((-4611686018427387904 : Int64), S)
  else
    bd_ (f_X7_areMarks E S a2) fun r2 =>
    (if r2 = 0 then
      some ((-4611686018427387904 : Int64), S)
    else
      bd_ (f_X7_in E S a3 (0 : Int32) (4 : Int32)) fun r3 =>
      (if r3 = 0 then
        some ((-4611686018427387904 : Int64), S)
      else
        bd_ (f_X7_in E S a4 (0 : Int32) (1 : Int32)) fun r4 =>
        (if r4 = 0 then
          some ((-4611686018427387904 : Int64), S)
        else
          bd_ (f_X7_goMarks E S a1 a2) fun S5 =>
          ck_ (ib_ (((5 : Int32) * (a2 / (100 : Int32))) + a3) 30) <|
          bd_ (f_X7_sumRow E S5 (a2 / (100 : Int32))) fun r7 =>
          bd_ (f_X7_lowest E S5 (gL S5 66 0 (((5 : Int32) * (a2 / (100 : Int32))) + a3).toNatClampNeg) r7 a4) fun r8 =>
          some (r8, S5)))))
/-! X7_moves -/
def f_X7_moves (E : EN) (S : ST) (a1 : Int32) (a2 : Int32) (a3 : Int32) : Option (Int32 × ST) :=
  bd_ (f_X7_isPupil E S a1) fun r1 =>
  (if r1 = 0 then
    some ((-5 : Int32), S)
  else
    bd_ (f_X7_areMarks E S a2) fun r2 =>
    (if r2 = 0 then
      some ((-5 : Int32), S)
    else
      bd_ (f_X7_in E S a3 (0 : Int32) (2 : Int32)) fun r3 =>
      (if r3 = 0 then
        some ((-5 : Int32), S)
      else
        bd_ (f_X7_goMarks E S a1 a2) fun S4 =>
        (if a3 = 0 then
          ck_ (ib_ (a2 / (100 : Int32)) 6) <|
          some (gI S4 67 0 (a2 / (100 : Int32)).toNatClampNeg, S4)
        else
          (if a3 = (1 : Int32) then
            ck_ (ib_ (a2 / (100 : Int32)) 6) <|
            some (gI S4 68 0 (a2 / (100 : Int32)).toNatClampNeg, S4)
          else
            some (gI S4 1 0 30, S4))))))
/-! X7_hundreds -/
def g_X7_hundreds_b5 (E : EN) (kh5 : ST → Int32 → Int64 → Int32 → Option Int64) (S : ST) (v1 : Int32) (v2 : Int64) (v4 : Int32) : Option Int64 :=
  (if v1 ≤ v4 then
    some v2
  else
    lt_ (v2 * (100 : Int64)) fun x1 =>
    lt_ (v4 + (1 : Int32)) fun x2 =>
    kh5 S v1 x1 x2)
def f_X7_hundreds_b5 (E : EN) (n : Nat) : ST → Int32 → Int64 → Int32 → Option Int64 := fx_ (fun _ _ _ _ => none) (g_X7_hundreds_b5 E) n
def f_X7_hundreds (E : EN) (S : ST) (a1 : Int32) : Option Int64 :=
  f_X7_hundreds_b5 E E.1 S a1 (1 : Int64) (0 : Int32)
/-! X7_likely -/
def f_X7_likely (E : EN) (S : ST) (a1 : Int32) (a2 : Int32) (a3 : Int32) : Option (Int64 × ST) :=
  bd_ (f_X7_isPupil E S a1) fun r1 =>
  (if r1 = 0 then
    some ((-4611686018427387904 : Int64), S)
  else
    bd_ (f_X7_areMarks E S a2) fun r2 =>
    (if r2 = 0 then
      some ((-4611686018427387904 : Int64), S)
    else
      bd_ (f_X7_in E S a3 (0 : Int32) (3 : Int32)) fun r3 =>
      (if r3 = 0 then
        some ((-4611686018427387904 : Int64), S)
      else
        bd_ (f_X7_goMarks E S a1 a2) fun S4 =>
        lt_ (a2 / (100 : Int32)) fun x5 =>
        (if (2 : Int32) ≤ a3 then
          ck_ (ib_ x5 6) <|
          bd_ (f_X7_sumFrom E S4 x5 (gI S4 67 0 x5.toNatClampNeg)) fun r7 =>
          bd_ (f_X7_sumRow E S4 x5) fun r8 =>
          bd_ (f_X7_lowest E S4 r7 r8 (a3 - (2 : Int32))) fun r9 =>
          some (r9, S4)
        else
          bd_ (f_X7_sumRow E S4 x5) fun r10 =>
          bd_ (f_X7_sumOf E S4 a1) fun r11 =>
          bd_ (f_X7_hundreds E S4 x5) fun r12 =>
          bd_ (f_X7_lowest E S4 r10 (r11.toInt64 * r12) a3) fun r13 =>
          some (r13, S4)))))
/-! X7_allOf -/
def f_X7_allOf (E : EN) (S : ST) (a1 : Int32) : Option Int64 :=
  bd_ (f_X7_sumOf E S a1) fun r1 =>
  bd_ (f_X7_hundreds E S (5 : Int32)) fun r2 =>
  some (r1.toInt64 * r2)
/-! X7_ending -/
def g_X7_ending_b4 (E : EN) (kh4 : ST → Int64 → Int32 → Option Int64) (S : ST) (v1 : Int64) (v3 : Int32) : Option Int64 :=
  (if (5 : Int32) ≤ v3 then
    some v1
  else
    ck_ (ib_ ((25 : Int32) + v3) 30) <|
    ck_ (ib_ ((((30 : Int32) * (gI S 67 0 5)) + ((5 : Int32) * (gI S 68 0 5))) + v3) 150) <|
    lt_ (v1 + ((gL S 66 0 ((25 : Int32) + v3).toNatClampNeg) * ((gI S 65 0 ((((30 : Int32) * (gI S 67 0 5)) + ((5 : Int32) * (gI S 68 0 5))) + v3).toNatClampNeg).toInt64))) fun x3 =>
    lt_ (v3 + (1 : Int32)) fun x4 =>
    kh4 S x3 x4)
def f_X7_ending_b4 (E : EN) (n : Nat) : ST → Int64 → Int32 → Option Int64 := fx_ (fun _ _ _ => none) (g_X7_ending_b4 E) n
def f_X7_ending (E : EN) (S : ST)  : Option Int64 :=
  f_X7_ending_b4 E E.1 S (0 : Int64) (0 : Int32)
/-! X7_meanOf -/
def f_X7_meanOf_b60 (E : EN) (kh11 : ST → Int32 → Int32 → Int32 → Int32 → Int64 → Int32 → Option (Int64 × ST)) (S : ST) (v1 : Int32) (v2 : Int32) (v3 : Int32) (v4 : Int32) (v5 : Int64) (v7 : Int32) (v8 : Int32) : Option (Int64 × ST) :=
  bd_ (f_X7_sumRow E S (5 : Int32)) fun r1 =>
  lt_ (sL S 1 0 31 ((gL S 1 0 31) + (v8.toInt64 * r1))) fun S2 =>
  bd_ (f_X7_ending E S2) fun r3 =>
  lt_ (v5 + r3) fun x4 =>
  lt_ (v7 + (1 : Int32)) fun x5 =>
  kh11 S2 v1 v2 v3 v4 x4 x5
def g_X7_meanOf_b36 (E : EN) (kh11 : ST → Int32 → Int32 → Int32 → Int32 → Int64 → Int32 → Option (Int64 × ST)) (kh36 : ST → Int32 → Int32 → Int32 → Int32 → Int64 → Int32 → Int32 → Int32 → Option (Int64 × ST)) (S : ST) (v1 : Int32) (v2 : Int32) (v3 : Int32) (v4 : Int32) (v5 : Int64) (v7 : Int32) (v8 : Int32) (v9 : Int32) : Option (Int64 × ST) :=
  (if (5 : Int32) ≤ v9 then
    f_X7_meanOf_b60 E kh11 S v1 v2 v3 v4 v5 v7 v8
  else
    lt_ (v8 + ((v7 >>> (v9 &&& 31)) &&& (1 : Int32))) fun x6 =>
    lt_ (v9 + (1 : Int32)) fun x7 =>
    kh36 S v1 v2 v3 v4 v5 v7 x6 x7)
def f_X7_meanOf_b36 (E : EN) (kh11 : ST → Int32 → Int32 → Int32 → Int32 → Int64 → Int32 → Option (Int64 × ST)) (n : Nat) : ST → Int32 → Int32 → Int32 → Int32 → Int64 → Int32 → Int32 → Int32 → Option (Int64 × ST) := fx_ (fun _ _ _ _ _ _ _ _ _ => none) (g_X7_meanOf_b36 E kh11) n
def g_X7_meanOf_b11 (E : EN) (kh11 : ST → Int32 → Int32 → Int32 → Int32 → Int64 → Int32 → Option (Int64 × ST)) (S : ST) (v1 : Int32) (v2 : Int32) (v3 : Int32) (v4 : Int32) (v5 : Int64) (v7 : Int32) : Option (Int64 × ST) :=
  (if (32 : Int32) ≤ v7 then
    some (v5, S)
  else
    bd_ (f_X7_go E S v1 v2 v3 v4 (5 : Int32) v7) fun S8 =>
    f_X7_meanOf_b36 E kh11 E.1 S8 v1 v2 v3 v4 v5 v7 (0 : Int32) (0 : Int32))
def f_X7_meanOf_b11 (E : EN) (n : Nat) : ST → Int32 → Int32 → Int32 → Int32 → Int64 → Int32 → Option (Int64 × ST) := fx_ (fun _ _ _ _ _ _ _ => none) (g_X7_meanOf_b11 E) n
def f_X7_meanOf (E : EN) (S : ST) (a1 : Int32) (a2 : Int32) (a3 : Int32) (a4 : Int32) : Option (Int64 × ST) :=
  lt_ (sL S 1 0 31 (0 : Int64)) fun S9 =>
  f_X7_meanOf_b11 E E.1 S9 a1 a2 a3 a4 (0 : Int64) (0 : Int32)
/-! X7_enter -/
def f_X7_enter (E : EN) (S : ST) (a1 : Int32) : Option ST :=
  ck_ (ib_ a1 6) <|
  lt_ (sI S 72 0 a1.toNatClampNeg (0 : Int32)) fun S2 =>
  lt_ (sI S2 73 0 a1.toNatClampNeg (-1 : Int32)) fun S3 =>
  lt_ (sL S3 74 0 a1.toNatClampNeg (-1 : Int64)) fun S4 =>
  lt_ (sL S4 75 0 a1.toNatClampNeg (0 : Int64)) fun S5 =>
  some S5
/-! X7_bestOf -/
def f_X7_bestOf_b189 (E : EN) (kh18 : ST → Int32 → Option (Int64 × ST)) (S : ST) (v2 : Int32) (t0 : Int64) (t1 : Int32) : Option (Int64 × ST) :=
  ck_ (ib_ t1 6) <|
  lt_ (sL S 74 0 t1.toNatClampNeg t0) fun S2 =>
  kh18 S2 v2
def f_X7_bestOf_b153 (E : EN) (kh18 : ST → Int32 → Option (Int64 × ST)) (S : ST) (v2 : Int32) (t0 : Int64) : Option (Int64 × ST) :=
  (if v2 = 0 then
    some (t0, S)
  else
    lt_ (v2 + (-1 : Int32)) fun x3 =>
    ck_ (ib_ x3 6) <|
    (if t0 ≤ (gL S 74 0 x3.toNatClampNeg) then
      f_X7_bestOf_b189 E kh18 S x3 (gL S 74 0 x3.toNatClampNeg) x3
    else
      f_X7_bestOf_b189 E kh18 S x3 t0 x3))
def f_X7_bestOf_b135 (E : EN) (kh18 : ST → Int32 → Option (Int64 × ST)) (S : ST) (v2 : Int32) : Option (Int64 × ST) :=
  (if v2 = (5 : Int32) then
    bd_ (f_X7_ending E S) fun r6 =>
    f_X7_bestOf_b153 E kh18 S v2 r6
  else
    ck_ (ib_ v2 6) <|
    f_X7_bestOf_b153 E kh18 S v2 (gL S 75 0 v2.toNatClampNeg))
def f_X7_bestOf_b76 (E : EN) (kh18 : ST → Int32 → Option (Int64 × ST)) (S : ST) (v2 : Int32) : Option (Int64 × ST) :=
  (if (5 : Int32) ≤ v2 then
    f_X7_bestOf_b135 E kh18 S v2
  else
    ck_ (ib_ v2 6) <|
    lt_ (sL S 75 0 v2.toNatClampNeg ((gL S 75 0 v2.toNatClampNeg) + (gL S 74 0 v2.toNatClampNeg))) fun S8 =>
    lt_ (sI S8 72 0 v2.toNatClampNeg ((gI S8 72 0 v2.toNatClampNeg) + (1 : Int32))) fun S9 =>
    lt_ (sI S9 73 0 v2.toNatClampNeg (-1 : Int32)) fun S10 =>
    lt_ (sL S10 74 0 v2.toNatClampNeg (-1 : Int64)) fun S11 =>
    (if (2 : Int32) ≤ (gI S11 72 0 v2.toNatClampNeg) then
      f_X7_bestOf_b135 E kh18 S11 v2
    else
      kh18 S11 v2))
def g_X7_bestOf_b18 (E : EN) (kh18 : ST → Int32 → Option (Int64 × ST)) (S : ST) (v2 : Int32) : Option (Int64 × ST) :=
  (if (5 : Int32) ≤ v2 then
    f_X7_bestOf_b76 E kh18 S v2
  else
    ck_ (ib_ v2 6) <|
    (if (2 : Int32) ≤ (gI S 73 0 v2.toNatClampNeg) then
      f_X7_bestOf_b76 E kh18 S v2
    else
      bd_ (f_X7_goWeek E S v2 (gI S 72 0 v2.toNatClampNeg)) fun S13 =>
      bd_ (f_X7_move E S13 v2 (gI S13 73 0 v2.toNatClampNeg)) fun S14 =>
      lt_ (sI S14 73 0 v2.toNatClampNeg ((gI S14 73 0 v2.toNatClampNeg) + (1 : Int32))) fun S15 =>
      lt_ (v2 + (1 : Int32)) fun x16 =>
      bd_ (f_X7_enter E S15 x16) fun S17 =>
      kh18 S17 x16))
def f_X7_bestOf_b18 (E : EN) (n : Nat) : ST → Int32 → Option (Int64 × ST) := fx_ (fun _ _ => none) (g_X7_bestOf_b18 E) n
def f_X7_bestOf (E : EN) (S : ST) (a1 : Int32) : Option (Int64 × ST) :=
  ck_ (ib_ a1 8) <|
  bd_ (f_X7_begin E S a1 (gI S 42 0 a1.toNatClampNeg)) fun S19 =>
  bd_ (f_X7_enter E S19 (0 : Int32)) fun S20 =>
  f_X7_bestOf_b18 E E.1 S20 (0 : Int32)
/-! X7_mean -/
def f_X7_mean_b109 (E : EN) (S : ST) (v1 : Int32) (v2 : Int32) (t0 : Int64) : Option (Int64 × ST) :=
  bd_ (f_X7_allOf E S v1) fun r1 =>
  bd_ (f_X7_lowest E S t0 r1 (rmI v2 (2 : Int32))) fun r2 =>
  some (r2, S)
def f_X7_mean_b71 (E : EN) (S : ST) (v1 : Int32) (v2 : Int32) (v3 : Int64) (t0 : Int64) : Option (Int64 × ST) :=
  (if (2 : Int32) ≤ v2 then
    (if (4 : Int32) ≤ v2 then
      (if (6 : Int32) ≤ v2 then
        f_X7_mean_b109 E S v1 v2 (t0 - v3)
      else
        f_X7_mean_b109 E S v1 v2 t0)
    else
      f_X7_mean_b109 E S v1 v2 (gL S 1 0 31))
  else
    f_X7_mean_b109 E S v1 v2 v3)
def f_X7_mean (E : EN) (S : ST) (a1 : Int32) (a2 : Int32) : Option (Int64 × ST) :=
  bd_ (f_X7_isPupil E S a1) fun r3 =>
  (if r3 = 0 then
    some ((-4611686018427387904 : Int64), S)
  else
    bd_ (f_X7_in E S a2 (0 : Int32) (7 : Int32)) fun r4 =>
    (if r4 = 0 then
      some ((-4611686018427387904 : Int64), S)
    else
      ck_ (ib_ a1 8) <|
      bd_ (f_X7_layRule E S (gI S 43 0 a1.toNatClampNeg)) fun S6 =>
      bd2 (f_X7_meanOf E S6 a1 (gI S6 42 0 a1.toNatClampNeg) (gI S6 41 0 a1.toNatClampNeg) (gI S6 44 0 a1.toNatClampNeg)) fun r7 S8 =>
      (if a2 ≤ (3 : Int32) then
        f_X7_mean_b71 E S8 a1 a2 r7 (0 : Int64)
      else
        bd2 (f_X7_bestOf E S8 a1) fun r9 S10 =>
        f_X7_mean_b71 E S10 a1 a2 r7 r9)))
/-! X7_off -/
def f_X7_off_b18 (E : EN) (S : ST) (v1 : Int32) (v2 : Int32) (v3 : Int32) : Option (Int64 × ST) :=
  bd_ (f_X7_in E S v3 (0 : Int32) (1 : Int32)) fun r1 =>
  (if r1 = 0 then
    some ((-4611686018427387904 : Int64), S)
  else
    ck_ (ib_ v1 8) <|
    bd_ (f_X7_layRule E S (gI S 43 0 v1.toNatClampNeg)) fun S3 =>
    bd2 (f_X7_meanOf E S3 v1 (gI S3 42 0 v1.toNatClampNeg) (gI S3 41 0 v1.toNatClampNeg) (gI S3 44 0 v1.toNatClampNeg)) fun r4 S5 =>
    bd_ (f_X7_held E S5 ((gI S5 42 0 v1.toNatClampNeg) + v2)) fun r6 =>
    bd2 (f_X7_meanOf E S5 v1 r6 (gI S5 41 0 v1.toNatClampNeg) (gI S5 44 0 v1.toNatClampNeg)) fun r7 S8 =>
    bd_ (f_X7_allOf E S8 v1) fun r9 =>
    bd_ (f_X7_lowest E S8 (r4 - r7) r9 v3) fun r10 =>
    some (r10, S8))
def f_X7_off (E : EN) (S : ST) (a1 : Int32) (a2 : Int32) (a3 : Int32) : Option (Int64 × ST) :=
  bd_ (f_X7_isPupil E S a1) fun r11 =>
  (if r11 = 0 then
    some ((-4611686018427387904 : Int64), S)
  else
    (if a2 = (1 : Int32) then
      f_X7_off_b18 E S a1 a2 a3
    else
      (if a2 = (-1 : Int32) then
        f_X7_off_b18 E S a1 a2 a3
      else
        some ((-4611686018427387904 : Int64), S))))
/-! X7_rule -/
def f_X7_rule_b122 (E : EN) (kh41 : ST → Int32 → Int32 → Int32 → Int64 → Int32 → Option (Int32 × ST)) (S : ST) (v1 : Int32) (v2 : Int32) (v3 : Int32) (v4 : Int64) (v6 : Int32) : Option (Int32 × ST) :=
  lt_ (v6 + (1 : Int32)) fun x1 =>
  kh41 S v1 v2 v3 v4 x1
def f_X7_rule_b102 (E : EN) (kh41 : ST → Int32 → Int32 → Int32 → Int64 → Int32 → Option (Int32 × ST)) (S : ST) (v1 : Int32) (v2 : Int32) (v3 : Int32) (v4 : Int64) (v6 : Int32) (t0 : Int64) : Option (Int32 × ST) :=
  (if v4 < t0 then
    f_X7_rule_b122 E kh41 S v1 v2 v6 t0 v6
  else
    f_X7_rule_b122 E kh41 S v1 v2 v3 v4 v6)
def f_X7_rule_b54 (E : EN) (kh41 : ST → Int32 → Int32 → Int32 → Int64 → Int32 → Option (Int32 × ST)) (S : ST) (v1 : Int32) (v2 : Int32) (v3 : Int32) (v4 : Int64) (v6 : Int32) (t0 : Int32) (t1 : Int32) : Option (Int32 × ST) :=
  (if t0 ≤ t1 then
    some (v3, S)
  else
    (if v2 = 0 then
      ck_ (ib_ v1 8) <|
      bd2 (f_X7_meanOf E S v1 (gI S 42 0 v1.toNatClampNeg) (gI S 41 0 v1.toNatClampNeg) v6) fun r6 S7 =>
      f_X7_rule_b102 E kh41 S7 v1 v2 v3 v4 v6 r6
    else
      ck_ (ib_ v1 8) <|
      bd2 (f_X7_meanOf E S v1 (gI S 42 0 v1.toNatClampNeg) v6 (gI S 44 0 v1.toNatClampNeg)) fun r3 S4 =>
      f_X7_rule_b102 E kh41 S4 v1 v2 v3 v4 v6 r3))
def g_X7_rule_b41 (E : EN) (kh41 : ST → Int32 → Int32 → Int32 → Int64 → Int32 → Option (Int32 × ST)) (S : ST) (v1 : Int32) (v2 : Int32) (v3 : Int32) (v4 : Int64) (v6 : Int32) : Option (Int32 × ST) :=
  (if v2 = 0 then
    f_X7_rule_b54 E kh41 S v1 v2 v3 v4 v6 (10 : Int32) v6
  else
    f_X7_rule_b54 E kh41 S v1 v2 v3 v4 v6 (6 : Int32) v6)
def f_X7_rule_b41 (E : EN) (n : Nat) : ST → Int32 → Int32 → Int32 → Int64 → Int32 → Option (Int32 × ST) := fx_ (fun _ _ _ _ _ _ => none) (g_X7_rule_b41 E) n
def f_X7_rule (E : EN) (S : ST) (a1 : Int32) (a2 : Int32) : Option (Int32 × ST) :=
  bd_ (f_X7_isPupil E S a1) fun r8 =>
  (if r8 = 0 then
    some ((-2 : Int32), S)
  else
    bd_ (f_X7_in E S a2 (0 : Int32) (1 : Int32)) fun r9 =>
    (if r9 = 0 then
      some ((-2 : Int32), S)
    else
      ck_ (ib_ a1 8) <|
      bd_ (f_X7_layRule E S (gI S 43 0 a1.toNatClampNeg)) fun S11 =>
      f_X7_rule_b41 E E.1 S11 a1 a2 (0 : Int32) (-1 : Int64) (0 : Int32)))
/-! X7_isSheet -/
def f_X7_isSheet (E : EN) (S : ST) (a1 : Int32) : Option Int32 :=
  bd_ (f_X7_in E S a1 (0 : Int32) (3 : Int32)) fun r1 =>
  ck_ (ob_ r1) <|
  some r1
/-! X7_room -/
def f_X7_room_b302 (E : EN) (kh212 : ST → Int32 → Int32 → Int32 → Int32 → Option (Int32 × ST)) (S : ST) (v1 : Int32) (v2 : Int32) (v5 : Int32) (t0 : Int32) (t1 : Int32) : Option (Int32 × ST) :=
  lt_ (t1 ||| t0) fun x1 =>
  lt_ (v5 + (1 : Int32)) fun x2 =>
  kh212 S v1 v2 x1 x2
def f_X7_room_b287 (E : EN) (kh212 : ST → Int32 → Int32 → Int32 → Int32 → Option (Int32 × ST)) (S : ST) (v1 : Int32) (v2 : Int32) (v4 : Int32) (v5 : Int32) (v6 : Int32) : Option (Int32 × ST) :=
  (if 0 ≤ v6 then
    f_X7_room_b302 E kh212 S v1 v2 v5 ((1 : Int32) <<< (v6 &&& 31)) v4
  else
    f_X7_room_b302 E kh212 S v1 v2 v5 (0 : Int32) v4)
def f_X7_room_b281 (E : EN) (kh212 : ST → Int32 → Int32 → Int32 → Int32 → Option (Int32 × ST)) (kh229 : ST → Int32 → Int32 → Int32 → Int32 → Int32 → Int32 → Option (Int32 × ST)) (S : ST) (v1 : Int32) (v2 : Int32) (v4 : Int32) (v5 : Int32) (v6 : Int32) (v7 : Int32) : Option (Int32 × ST) :=
  lt_ (v7 + (-1 : Int32)) fun x3 =>
  kh229 S v1 v2 v4 v5 v6 x3
def f_X7_room_b277 (E : EN) (kh212 : ST → Int32 → Int32 → Int32 → Int32 → Option (Int32 × ST)) (kh229 : ST → Int32 → Int32 → Int32 → Int32 → Int32 → Int32 → Option (Int32 × ST)) (S : ST) (v1 : Int32) (v2 : Int32) (v4 : Int32) (v5 : Int32) (v7 : Int32) : Option (Int32 × ST) :=
  f_X7_room_b281 E kh212 kh229 S v1 v2 v4 v5 v7 v7
def g_X7_room_b229 (E : EN) (kh212 : ST → Int32 → Int32 → Int32 → Int32 → Option (Int32 × ST)) (kh229 : ST → Int32 → Int32 → Int32 → Int32 → Int32 → Int32 → Option (Int32 × ST)) (S : ST) (v1 : Int32) (v2 : Int32) (v4 : Int32) (v5 : Int32) (v6 : Int32) (v7 : Int32) : Option (Int32 × ST) :=
  (if v7 < 0 then
    f_X7_room_b287 E kh212 S v1 v2 v4 v5 v6
  else
    (if ((v1 >>> (v7 &&& 31)) &&& (1 : Int32)) = (1 : Int32) then
      (if ((v4 >>> (v7 &&& 31)) &&& (1 : Int32)) = 0 then
        (if v6 < 0 then
          f_X7_room_b277 E kh212 kh229 S v1 v2 v4 v5 v7
        else
          ck_ (ib_ v7 8) <|
          ck_ (ib_ v6 8) <|
          (if (gL S 76 0 v7.toNatClampNeg) < (gL S 76 0 v6.toNatClampNeg) then
            f_X7_room_b281 E kh212 kh229 S v1 v2 v4 v5 v6 v7
          else
            f_X7_room_b277 E kh212 kh229 S v1 v2 v4 v5 v7))
      else
        f_X7_room_b281 E kh212 kh229 S v1 v2 v4 v5 v6 v7)
    else
      f_X7_room_b281 E kh212 kh229 S v1 v2 v4 v5 v6 v7))
def f_X7_room_b229 (E : EN) (kh212 : ST → Int32 → Int32 → Int32 → Int32 → Option (Int32 × ST)) (n : Nat) : ST → Int32 → Int32 → Int32 → Int32 → Int32 → Int32 → Option (Int32 × ST) := fx_ (fun _ _ _ _ _ _ _ => none) (g_X7_room_b229 E kh212) n
def g_X7_room_b212 (E : EN) (kh212 : ST → Int32 → Int32 → Int32 → Int32 → Option (Int32 × ST)) (S : ST) (v1 : Int32) (v2 : Int32) (v4 : Int32) (v5 : Int32) : Option (Int32 × ST) :=
  (if v2 ≤ v5 then
    some (v4, S)
  else
    lt_ ((gI S 1 0 0) - (1 : Int32)) fun x6 =>
    f_X7_room_b229 E kh212 E.1 S v1 v2 v4 v5 (-1 : Int32) x6)
def f_X7_room_b212 (E : EN) (n : Nat) : ST → Int32 → Int32 → Int32 → Int32 → Option (Int32 × ST) := fx_ (fun _ _ _ _ _ => none) (g_X7_room_b212 E) n
def f_X7_room_b206 (E : EN) (S : ST) (v1 : Int32) (v2 : Int32) : Option (Int32 × ST) :=
  f_X7_room_b212 E E.1 S v1 v2 (0 : Int32) (0 : Int32)
def f_X7_room_b199 (E : EN) (kh110 : ST → Int32 → Int32 → Int32 → Int32 → Option (Int32 × ST)) (S : ST) (v1 : Int32) (v2 : Int32) (v3 : Int32) (v4 : Int32) (t0 : Int64) (t1 : Int32) : Option (Int32 × ST) :=
  ck_ (ib_ t1 8) <|
  lt_ (sL S 76 0 t1.toNatClampNeg t0) fun S8 =>
  lt_ (v4 + (1 : Int32)) fun x9 =>
  kh110 S8 v1 v2 v3 x9
def g_X7_room_b110 (E : EN) (kh110 : ST → Int32 → Int32 → Int32 → Int32 → Option (Int32 × ST)) (S : ST) (v1 : Int32) (v2 : Int32) (v3 : Int32) (v4 : Int32) : Option (Int32 × ST) :=
  (if (gI S 1 0 0) ≤ v4 then
    f_X7_room_b206 E S v1 v2
  else
    ck_ (ib_ (((40 : Int32) * v3) + v4) 160) <|
    bd_ (f_X7_goMarks E S v4 (gI S 85 0 (((40 : Int32) * v3) + v4).toNatClampNeg)) fun S11 =>
    lt_ ((gI S11 85 0 (((40 : Int32) * v3) + v4).toNatClampNeg) / (100 : Int32)) fun x12 =>
    bd_ (f_X7_sumRow E S11 x12) fun r13 =>
    (if r13 = (0 : Int64) then
      f_X7_room_b199 E kh110 S11 v1 v2 v3 v4 (0 : Int64) v4
    else
      ck_ (ib_ x12 6) <|
      bd_ (f_X7_sumFrom E S11 x12 (gI S11 67 0 x12.toNatClampNeg)) fun r15 =>
      bd_ (f_X7_sumRow E S11 x12) fun r16 =>
      ck_ (!decide (r16 = 0)) <|
      f_X7_room_b199 E kh110 S11 v1 v2 v3 v4 (((10000 : Int64) * r15) / r16) v4))
def f_X7_room_b110 (E : EN) (n : Nat) : ST → Int32 → Int32 → Int32 → Int32 → Option (Int32 × ST) := fx_ (fun _ _ _ _ _ => none) (g_X7_room_b110 E) n
def f_X7_room_b107 (E : EN) (S : ST) (v1 : Int32) (v2 : Int32) (v3 : Int32) : Option (Int32 × ST) :=
  f_X7_room_b110 E E.1 S v1 v2 v3 (0 : Int32)
def g_X7_room_b70 (E : EN) (kh70 : ST → Int32 → Int32 → Int32 → Int32 → Option (Int32 × ST)) (S : ST) (v1 : Int32) (v2 : Int32) (v3 : Int32) (v4 : Int32) : Option (Int32 × ST) :=
  (if (gI S 1 0 0) ≤ v4 then
    f_X7_room_b107 E S v1 v2 v3
  else
    ck_ (ib_ (((40 : Int32) * v3) + v4) 160) <|
    bd_ (f_X7_areMarks E S (gI S 85 0 (((40 : Int32) * v3) + v4).toNatClampNeg)) fun r19 =>
    (if r19 = 0 then
      some ((-2 : Int32), S)
    else
      lt_ (v4 + (1 : Int32)) fun x20 =>
      kh70 S v1 v2 v3 x20))
def f_X7_room_b70 (E : EN) (n : Nat) : ST → Int32 → Int32 → Int32 → Int32 → Option (Int32 × ST) := fx_ (fun _ _ _ _ _ => none) (g_X7_room_b70 E) n
def f_X7_room (E : EN) (S : ST) (a1 : Int32) (a2 : Int32) (a3 : Int32) : Option (Int32 × ST) :=
  bd_ (f_X7_in E S a1 (0 : Int32) (((1 : Int32) <<< ((gI S 1 0 0) &&& 31)) - (1 : Int32))) fun r21 =>
  (if r21 = 0 then
    some ((-2 : Int32), S)
  else
    bd_ (f_X7_in E S a2 (0 : Int32) (8 : Int32)) fun r22 =>
    (if r22 = 0 then
      some ((-2 : Int32), S)
    else
      bd_ (f_X7_isSheet E S a3) fun r23 =>
      (if r23 = 0 then
        some ((-2 : Int32), S)
      else
        ck_ (ib_ a3 4) <|
        (if 0 ≤ (gI S 83 0 a3.toNatClampNeg) then
          (if (gI S 84 0 a3.toNatClampNeg) = (gI S 1 0 0) then
            f_X7_room_b70 E E.1 S a1 a2 a3 (0 : Int32)
          else
            some ((-2 : Int32), S))
        else
          some ((-11 : Int32), S)))))
/-! X7_becomes -/
def g_X7_becomes_b68 (E : EN) (kh68 : ST → Int32 → Int64 → Int32 → Option (Int32 × ST)) (S : ST) (v1 : Int32) (v2 : Int64) (v6 : Int32) : Option (Int32 × ST) :=
  (if (5 : Int32) ≤ v6 then
    some ((1 : Int32), S)
  else
    ck_ (ib_ v6 5) <|
    ck_ (!decide (v2 = 0)) <|
    ck_ (ib_ (((5 : Int32) * v1) + v6) 40) <|
    lt_ (sI S 45 0 (((5 : Int32) * v1) + v6).toNatClampNeg (((gL S 77 0 v6.toNatClampNeg) / v2).toInt32)) fun S4 =>
    lt_ (v6 + (1 : Int32)) fun x5 =>
    kh68 S4 v1 v2 x5)
def f_X7_becomes_b68 (E : EN) (n : Nat) : ST → Int32 → Int64 → Int32 → Option (Int32 × ST) := fx_ (fun _ _ _ _ => none) (g_X7_becomes_b68 E) n
def f_X7_becomes_b45 (E : EN) (S : ST) (v1 : Int32) (v2 : Int64) (v4 : Int64) : Option (Int32 × ST) :=
  (if v4 = (0 : Int64) then
    some ((0 : Int32), S)
  else
    ck_ (!decide (v2 = 0)) <|
    (if (v4 / v2) ≤ (9999 : Int64) then
      f_X7_becomes_b68 E E.1 S v1 v2 (0 : Int32)
    else
      some ((0 : Int32), S)))
def g_X7_becomes_b8 (E : EN) (kh8 : ST → Int32 → Int64 → Int64 → Int32 → Option (Int32 × ST)) (S : ST) (v1 : Int32) (v2 : Int64) (v4 : Int64) (v6 : Int32) : Option (Int32 × ST) :=
  (if (5 : Int32) ≤ v6 then
    f_X7_becomes_b45 E S v1 v2 v4
  else
    ck_ (ib_ v6 5) <|
    bd_ (f_X7_divisor E S v2 (gL S 77 0 v6.toNatClampNeg)) fun r8 =>
    lt_ (v4 + (gL S 77 0 v6.toNatClampNeg)) fun x9 =>
    lt_ (v6 + (1 : Int32)) fun x10 =>
    kh8 S v1 r8 x9 x10)
def f_X7_becomes_b8 (E : EN) (n : Nat) : ST → Int32 → Int64 → Int64 → Int32 → Option (Int32 × ST) := fx_ (fun _ _ _ _ _ => none) (g_X7_becomes_b8 E) n
def f_X7_becomes (E : EN) (S : ST) (a1 : Int32) : Option (Int32 × ST) :=
  f_X7_becomes_b8 E E.1 S a1 (0 : Int64) (0 : Int64) (0 : Int32)
/-! X7_summer -/
def f_X7_summer_b93 (E : EN) (S : ST) (v1 : Int32) : Option (Int32 × ST) :=
  bd2 (f_X7_becomes E S v1) fun r1 S2 =>
  (if r1 = 0 then
    some ((-3 : Int32), S2)
  else
    bd_ (f_X7_sumOf E S2 v1) fun r3 =>
    some (r3, S2))
def f_X7_summer_b85 (E : EN) (kh24 : ST → Int32 → Int32 → Int32 → Option (Int32 × ST)) (S : ST) (v1 : Int32) (v2 : Int32) (v3 : Int32) (t0 : Int64) (t1 : Int64) (t2 : Int32) : Option (Int32 × ST) :=
  ck_ (ib_ t2 5) <|
  lt_ (sL S 77 0 t2.toNatClampNeg (t1 + t0)) fun S5 =>
  lt_ (v3 + (1 : Int32)) fun x6 =>
  kh24 S5 v1 v2 x6
def f_X7_summer_b58 (E : EN) (kh24 : ST → Int32 → Int32 → Int32 → Option (Int32 × ST)) (S : ST) (v1 : Int32) (v2 : Int32) (v3 : Int32) (t0 : Int32) (t1 : Int64) (t2 : Int32) : Option (Int32 × ST) :=
  (if (4 : Int32) ≤ v3 then
    f_X7_summer_b85 E kh24 S v1 v2 v3 (0 : Int64) (t1 * t0.toInt64) t2
  else
    ck_ (ib_ ((((5 : Int32) * v1) + v3) + (1 : Int32)) 40) <|
    f_X7_summer_b85 E kh24 S v1 v2 v3 (((gI S 45 0 ((((5 : Int32) * v1) + v3) + (1 : Int32)).toNatClampNeg).toInt64) * v2.toInt64) (t1 * t0.toInt64) t2)
def g_X7_summer_b24 (E : EN) (kh24 : ST → Int32 → Int32 → Int32 → Option (Int32 × ST)) (S : ST) (v1 : Int32) (v2 : Int32) (v3 : Int32) : Option (Int32 × ST) :=
  (if (5 : Int32) ≤ v3 then
    f_X7_summer_b93 E S v1
  else
    ck_ (ib_ (((5 : Int32) * v1) + v3) 40) <|
    (if v3 = 0 then
      f_X7_summer_b58 E kh24 S v1 v2 v3 (10 : Int32) ((gI S 45 0 (((5 : Int32) * v1) + v3).toNatClampNeg).toInt64) v3
    else
      f_X7_summer_b58 E kh24 S v1 v2 v3 ((10 : Int32) - v2) ((gI S 45 0 (((5 : Int32) * v1) + v3).toNatClampNeg).toInt64) v3))
def f_X7_summer_b24 (E : EN) (n : Nat) : ST → Int32 → Int32 → Int32 → Option (Int32 × ST) := fx_ (fun _ _ _ _ => none) (g_X7_summer_b24 E) n
def f_X7_summer (E : EN) (S : ST) (a1 : Int32) (a2 : Int32) : Option (Int32 × ST) :=
  bd_ (f_X7_isPupil E S a1) fun r9 =>
  (if r9 = 0 then
    some ((-2 : Int32), S)
  else
    bd_ (f_X7_in E S a2 (0 : Int32) (9 : Int32)) fun r10 =>
    (if r10 = 0 then
      some ((-2 : Int32), S)
    else
      f_X7_summer_b24 E E.1 S a1 a2 (0 : Int32)))
/-! X7_test -/
def f_X7_test_b57 (E : EN) (S : ST) (v1 : Int32) (v2 : Int32) : Option (Int32 × ST) :=
  bd2 (f_X7_becomes E S v1) fun r1 S2 =>
  (if r1 = 0 then
    some ((-3 : Int32), S2)
  else
    ck_ (ib_ (v2 / (100 : Int32)) 6) <|
    ck_ (ib_ v1 8) <|
    lt_ (sI S2 42 0 v1.toNatClampNeg (gI S2 67 0 (v2 / (100 : Int32)).toNatClampNeg)) fun S5 =>
    some (gI S5 42 0 v1.toNatClampNeg, S5))
def g_X7_test_b27 (E : EN) (kh27 : ST → Int32 → Int32 → Int32 → Option (Int32 × ST)) (S : ST) (v1 : Int32) (v2 : Int32) (v3 : Int32) : Option (Int32 × ST) :=
  (if (5 : Int32) ≤ v3 then
    f_X7_test_b57 E S v1 v2
  else
    ck_ (ib_ (((5 : Int32) * (v2 / (100 : Int32))) + v3) 30) <|
    ck_ (ib_ v3 5) <|
    lt_ (sL S 77 0 v3.toNatClampNeg (gL S 66 0 (((5 : Int32) * (v2 / (100 : Int32))) + v3).toNatClampNeg)) fun S8 =>
    lt_ (v3 + (1 : Int32)) fun x9 =>
    kh27 S8 v1 v2 x9)
def f_X7_test_b27 (E : EN) (n : Nat) : ST → Int32 → Int32 → Int32 → Option (Int32 × ST) := fx_ (fun _ _ _ _ => none) (g_X7_test_b27 E) n
def f_X7_test (E : EN) (S : ST) (a1 : Int32) (a2 : Int32) : Option (Int32 × ST) :=
  bd_ (f_X7_isPupil E S a1) fun r10 =>
  (if r10 = 0 then
    some ((-2 : Int32), S)
  else
    bd_ (f_X7_areMarks E S a2) fun r11 =>
    (if r11 = 0 then
      some ((-2 : Int32), S)
    else
      bd_ (f_X7_goMarks E S a1 a2) fun S12 =>
      f_X7_test_b27 E E.1 S12 a1 a2 (0 : Int32)))
/-! X7_cut -/
def f_X7_cut_b245 (E : EN) (S : ST) (v3 : Int32) (v5 : Int32) (v6 : Int32) : Option Int32 :=
  (if v3 = 0 then
    some v6
  else
    some v5)
def f_X7_cut_b239 (E : EN) (kh130 : ST → Int32 → Int32 → Int32 → Int32 → Int32 → Int32 → Int32 → Option Int32) (S : ST) (v1 : Int32) (v2 : Int32) (v3 : Int32) (v4 : Int32) (v5 : Int32) (v6 : Int32) (v7 : Int32) : Option Int32 :=
  lt_ (v7 + (1 : Int32)) fun x1 =>
  kh130 S v1 v2 v3 v4 v5 v6 x1
def f_X7_cut_b231 (E : EN) (kh130 : ST → Int32 → Int32 → Int32 → Int32 → Int32 → Int32 → Int32 → Option Int32) (S : ST) (v1 : Int32) (v2 : Int32) (v3 : Int32) (v4 : Int32) (v7 : Int32) (v10 : Int32) : Option Int32 :=
  f_X7_cut_b239 E kh130 S v1 v2 v3 v4 v7 v10 v7
def f_X7_cut_b210 (E : EN) (kh130 : ST → Int32 → Int32 → Int32 → Int32 → Int32 → Int32 → Int32 → Option Int32) (S : ST) (v1 : Int32) (v2 : Int32) (v3 : Int32) (v4 : Int32) (v5 : Int32) (v6 : Int32) (v7 : Int32) (v8 : Int32) (v10 : Int32) : Option Int32 :=
  (if v8 = v1 then
    (if v6 < 0 then
      f_X7_cut_b231 E kh130 S v1 v2 v3 v4 v7 v10
    else
      (if v10 < v6 then
        f_X7_cut_b231 E kh130 S v1 v2 v3 v4 v7 v10
      else
        f_X7_cut_b239 E kh130 S v1 v2 v3 v4 v5 v6 v7))
  else
    f_X7_cut_b239 E kh130 S v1 v2 v3 v4 v5 v6 v7)
def f_X7_cut_b204 (E : EN) (kh130 : ST → Int32 → Int32 → Int32 → Int32 → Int32 → Int32 → Int32 → Option Int32) (kh151 : ST → Int32 → Int32 → Int32 → Int32 → Int32 → Int32 → Int32 → Int32 → Int32 → Int32 → Int32 → Option Int32) (S : ST) (v1 : Int32) (v2 : Int32) (v3 : Int32) (v4 : Int32) (v5 : Int32) (v6 : Int32) (v7 : Int32) (v8 : Int32) (v9 : Int32) (v10 : Int32) (v11 : Int32) : Option Int32 :=
  lt_ (v11 + (1 : Int32)) fun x2 =>
  kh151 S v1 v2 v3 v4 v5 v6 v7 v8 v9 v10 x2
def g_X7_cut_b151 (E : EN) (kh130 : ST → Int32 → Int32 → Int32 → Int32 → Int32 → Int32 → Int32 → Option Int32) (kh151 : ST → Int32 → Int32 → Int32 → Int32 → Int32 → Int32 → Int32 → Int32 → Int32 → Int32 → Int32 → Option Int32) (S : ST) (v1 : Int32) (v2 : Int32) (v3 : Int32) (v4 : Int32) (v5 : Int32) (v6 : Int32) (v7 : Int32) (v8 : Int32) (v9 : Int32) (v10 : Int32) (v11 : Int32) : Option Int32 :=
  (if v4 ≤ v11 then
    f_X7_cut_b210 E kh130 S v1 v2 v3 v4 v5 v6 v7 v8 v10
  else
    ck_ (ib_ (((40 : Int32) * v2) + v11) 160) <|
    lt_ (v9 + (gI S 85 0 (((40 : Int32) * v2) + v11).toNatClampNeg)) fun x4 =>
    (if ((v7 >>> (v11 &&& 31)) &&& (1 : Int32)) = 0 then
      f_X7_cut_b204 E kh130 kh151 S v1 v2 v3 v4 v5 v6 v7 v8 x4 v10 v11
    else
      lt_ (v8 + (1 : Int32)) fun x5 =>
      lt_ (v10 + (x4 * x4)) fun x6 =>
      f_X7_cut_b204 E kh130 kh151 S v1 v2 v3 v4 v5 v6 v7 x5 (0 : Int32) x6 v11))
def f_X7_cut_b151 (E : EN) (kh130 : ST → Int32 → Int32 → Int32 → Int32 → Int32 → Int32 → Int32 → Option Int32) (n : Nat) : ST → Int32 → Int32 → Int32 → Int32 → Int32 → Int32 → Int32 → Int32 → Int32 → Int32 → Int32 → Option Int32 := fx_ (fun _ _ _ _ _ _ _ _ _ _ _ _ => none) (g_X7_cut_b151 E kh130) n
def g_X7_cut_b130 (E : EN) (kh130 : ST → Int32 → Int32 → Int32 → Int32 → Int32 → Int32 → Int32 → Option Int32) (S : ST) (v1 : Int32) (v2 : Int32) (v3 : Int32) (v4 : Int32) (v5 : Int32) (v6 : Int32) (v7 : Int32) : Option Int32 :=
  (if ((1 : Int32) <<< (v4 &&& 31)) ≤ v7 then
    f_X7_cut_b245 E S v3 v5 v6
  else
    f_X7_cut_b151 E kh130 E.1 S v1 v2 v3 v4 v5 v6 v7 (0 : Int32) (0 : Int32) (0 : Int32) (0 : Int32))
def f_X7_cut_b130 (E : EN) (n : Nat) : ST → Int32 → Int32 → Int32 → Int32 → Int32 → Int32 → Int32 → Option Int32 := fx_ (fun _ _ _ _ _ _ _ _ => none) (g_X7_cut_b130 E) n
def f_X7_cut_b108 (E : EN) (S : ST) (v1 : Int32) (v2 : Int32) (v3 : Int32) (v4 : Int32) : Option Int32 :=
  (if v1 ≤ v4 then
    lt_ ((1 : Int32) <<< ((v4 - (1 : Int32)) &&& 31)) fun x7 =>
    f_X7_cut_b130 E E.1 S v1 v2 v3 v4 (0 : Int32) (-1 : Int32) x7
  else
    some (-1 : Int32))
def g_X7_cut_b70 (E : EN) (kh70 : ST → Int32 → Int32 → Int32 → Int32 → Int32 → Option Int32) (S : ST) (v1 : Int32) (v2 : Int32) (v3 : Int32) (v4 : Int32) (v5 : Int32) : Option Int32 :=
  (if v4 ≤ v5 then
    f_X7_cut_b108 E S v1 v2 v3 v4
  else
    ck_ (ib_ (((40 : Int32) * v2) + v5) 160) <|
    bd_ (f_X7_in E S (gI S 85 0 (((40 : Int32) * v2) + v5).toNatClampNeg) (0 : Int32) (99 : Int32)) fun r9 =>
    (if r9 = 0 then
      some (-2 : Int32)
    else
      lt_ (v5 + (1 : Int32)) fun x10 =>
      kh70 S v1 v2 v3 v4 x10))
def f_X7_cut_b70 (E : EN) (n : Nat) : ST → Int32 → Int32 → Int32 → Int32 → Int32 → Option Int32 := fx_ (fun _ _ _ _ _ _ => none) (g_X7_cut_b70 E) n
def f_X7_cut (E : EN) (S : ST) (a1 : Int32) (a2 : Int32) (a3 : Int32) : Option Int32 :=
  bd_ (f_X7_in E S a1 (1 : Int32) (10 : Int32)) fun r11 =>
  (if r11 = 0 then
    some (-2 : Int32)
  else
    bd_ (f_X7_isSheet E S a2) fun r12 =>
    (if r12 = 0 then
      some (-2 : Int32)
    else
      bd_ (f_X7_in E S a3 (0 : Int32) (1 : Int32)) fun r13 =>
      (if r13 = 0 then
        some (-2 : Int32)
      else
        ck_ (ib_ a2 4) <|
        (if 0 ≤ (gI S 83 0 a2.toNatClampNeg) then
          lt_ (gI S 84 0 a2.toNatClampNeg) fun x15 =>
          bd_ (f_X7_in E S x15 (1 : Int32) (10 : Int32)) fun r16 =>
          (if r16 = 0 then
            some (-2 : Int32)
          else
            f_X7_cut_b70 E E.1 S a1 a2 a3 x15 (0 : Int32))
        else
          some (-11 : Int32)))))
/-! X7_image -/
def f_X7_image_b73 (E : EN) (S : ST)  : Option (Int32 × ST) :=
  some (gI S 1 0 0, S)
def g_X7_image_b49 (E : EN) (kh49 : ST → Int32 → Option (Int32 × ST)) (S : ST) (v1 : Int32) : Option (Int32 × ST) :=
  (if (8 : Int32) ≤ v1 then
    f_X7_image_b73 E S
  else
    ck_ (ib_ v1 8) <|
    lt_ (sI S 82 0 v1.toNatClampNeg (gI S 42 0 v1.toNatClampNeg)) fun S2 =>
    lt_ (v1 + (1 : Int32)) fun x3 =>
    kh49 S2 x3)
def f_X7_image_b49 (E : EN) (n : Nat) : ST → Int32 → Option (Int32 × ST) := fx_ (fun _ _ => none) (g_X7_image_b49 E) n
def f_X7_image_b47 (E : EN) (S : ST)  : Option (Int32 × ST) :=
  f_X7_image_b49 E E.1 S (0 : Int32)
def g_X7_image_b23 (E : EN) (kh23 : ST → Int32 → Option (Int32 × ST)) (S : ST) (v1 : Int32) : Option (Int32 × ST) :=
  (if (40 : Int32) ≤ v1 then
    f_X7_image_b47 E S
  else
    ck_ (ib_ v1 40) <|
    lt_ (sI S 81 0 v1.toNatClampNeg (gI S 45 0 v1.toNatClampNeg)) fun S5 =>
    lt_ (v1 + (1 : Int32)) fun x6 =>
    kh23 S5 x6)
def f_X7_image_b23 (E : EN) (n : Nat) : ST → Int32 → Option (Int32 × ST) := fx_ (fun _ _ => none) (g_X7_image_b23 E) n
def f_X7_image (E : EN) (S : ST)  : Option (Int32 × ST) :=
  lt_ (sI S 1 0 38 (1 : Int32)) fun S7 =>
  lt_ (sI S7 1 0 39 (gI S7 1 0 0)) fun S8 =>
  lt_ (sI S8 1 0 40 (gI S8 1 0 7)) fun S9 =>
  f_X7_image_b23 E E.1 S9 (0 : Int32)
/-! X7_back -/
def f_X7_back_b76 (E : EN) (S : ST)  : Option (Int32 × ST) :=
  some (gI S 1 0 0, S)
def g_X7_back_b50 (E : EN) (kh50 : ST → Int32 → Option (Int32 × ST)) (S : ST) (v1 : Int32) : Option (Int32 × ST) :=
  (if (gI S 1 0 39) ≤ v1 then
    f_X7_back_b76 E S
  else
    ck_ (ib_ v1 8) <|
    lt_ (sI S 42 0 v1.toNatClampNeg (gI S 82 0 v1.toNatClampNeg)) fun S2 =>
    lt_ (v1 + (1 : Int32)) fun x3 =>
    kh50 S2 x3)
def f_X7_back_b50 (E : EN) (n : Nat) : ST → Int32 → Option (Int32 × ST) := fx_ (fun _ _ => none) (g_X7_back_b50 E) n
def f_X7_back_b48 (E : EN) (S : ST)  : Option (Int32 × ST) :=
  f_X7_back_b50 E E.1 S (0 : Int32)
def g_X7_back_b20 (E : EN) (kh20 : ST → Int32 → Option (Int32 × ST)) (S : ST) (v1 : Int32) : Option (Int32 × ST) :=
  (if ((5 : Int32) * (gI S 1 0 39)) ≤ v1 then
    f_X7_back_b48 E S
  else
    ck_ (ib_ v1 40) <|
    lt_ (sI S 45 0 v1.toNatClampNeg (gI S 81 0 v1.toNatClampNeg)) fun S5 =>
    lt_ (v1 + (1 : Int32)) fun x6 =>
    kh20 S5 x6)
def f_X7_back_b20 (E : EN) (n : Nat) : ST → Int32 → Option (Int32 × ST) := fx_ (fun _ _ => none) (g_X7_back_b20 E) n
def f_X7_back (E : EN) (S : ST)  : Option (Int32 × ST) :=
  (if (gI S 1 0 38) = 0 then
    some ((-3 : Int32), S)
  else
    lt_ (sI S 1 0 7 (gI S 1 0 40)) fun S7 =>
    f_X7_back_b20 E E.1 S7 (0 : Int32))
/-! X7_count -/
def f_X7_count_b41 (E : EN) (S : ST) (v1 : Int32) (v2 : Int32) (v3 : Int32) : Option Int32 :=
  (if v1 = (0 : Int32) then
    some (gI S 1 0 0)
  else
    (if v1 = (1 : Int32) then
      some (gI S 1 0 6)
    else
      (if v1 = (2 : Int32) then
        some (gI S 1 0 8)
      else
        (if v1 = (3 : Int32) then
          some (gI S 1 0 7)
        else
          (if v1 = (4 : Int32) then
            some v2
          else
            (if v1 = (5 : Int32) then
              some v3
            else
              some (-2 : Int32)))))))
def g_X7_count_b7 (E : EN) (kh7 : ST → Int32 → Int32 → Int32 → Int32 → Option Int32) (S : ST) (v1 : Int32) (v2 : Int32) (v3 : Int32) (v4 : Int32) : Option Int32 :=
  (if (gI S 1 0 0) ≤ v4 then
    f_X7_count_b41 E S v1 v2 v3
  else
    bd_ (f_X7_sumOf E S v4) fun r1 =>
    lt_ (v2 + r1) fun x2 =>
    ck_ (ib_ v4 8) <|
    lt_ (v3 + (gI S 42 0 v4.toNatClampNeg)) fun x4 =>
    lt_ (v4 + (1 : Int32)) fun x5 =>
    kh7 S v1 x2 x4 x5)
def f_X7_count_b7 (E : EN) (n : Nat) : ST → Int32 → Int32 → Int32 → Int32 → Option Int32 := fx_ (fun _ _ _ _ _ => none) (g_X7_count_b7 E) n
def f_X7_count (E : EN) (S : ST) (a1 : Int32) : Option Int32 :=
  f_X7_count_b7 E E.1 S a1 (0 : Int32) (0 : Int32) (0 : Int32)
/-! X7_sheet -/
def g_X7_sheet_b67 (E : EN) (kh67 : ST → Int32 → Int32 → Option (Int32 × ST)) (S : ST) (v1 : Int32) (v4 : Int32) : Option (Int32 × ST) :=
  (if (40 : Int32) ≤ v4 then
    some ((1 : Int32), S)
  else
    ck_ (ib_ (((40 : Int32) * v1) + v4) 160) <|
    lt_ (sI S 85 0 (((40 : Int32) * v1) + v4).toNatClampNeg (0 : Int32)) fun S2 =>
    lt_ (v4 + (1 : Int32)) fun x3 =>
    kh67 S2 v1 x3)
def f_X7_sheet_b67 (E : EN) (n : Nat) : ST → Int32 → Int32 → Option (Int32 × ST) := fx_ (fun _ _ _ => none) (g_X7_sheet_b67 E) n
def f_X7_sheet_b63 (E : EN) (S : ST) (v1 : Int32) (t0 : Int32) (t1 : Int32) : Option (Int32 × ST) :=
  ck_ (ib_ t1 4) <|
  lt_ (sI S 84 0 t1.toNatClampNeg t0) fun S5 =>
  f_X7_sheet_b67 E E.1 S5 v1 (0 : Int32)
def f_X7_sheet_b42 (E : EN) (S : ST) (v1 : Int32) (v2 : Int32) (v3 : Int32) : Option (Int32 × ST) :=
  ck_ (ib_ v1 4) <|
  lt_ (sI S 83 0 v1.toNatClampNeg v2) fun S7 =>
  (if 0 ≤ v2 then
    f_X7_sheet_b63 E S7 v1 v3 v1
  else
    f_X7_sheet_b63 E S7 v1 (0 : Int32) v1)
def f_X7_sheet_b31 (E : EN) (S : ST) (v1 : Int32) (v2 : Int32) (v3 : Int32) : Option (Int32 × ST) :=
  (if v2 < 0 then
    f_X7_sheet_b42 E S v1 v2 v3
  else
    (if 0 ≤ v3 then
      f_X7_sheet_b42 E S v1 v2 v3
    else
      some ((-14 : Int32), S)))
def f_X7_sheet (E : EN) (S : ST) (a1 : Int32) (a2 : Int32) (a3 : Int32) : Option (Int32 × ST) :=
  bd_ (f_X7_isSheet E S a1) fun r8 =>
  (if r8 = 0 then
    some ((-2 : Int32), S)
  else
    bd_ (f_X7_in E S a2 (-1 : Int32) (2 : Int32)) fun r9 =>
    (if r9 = 0 then
      some ((-2 : Int32), S)
    else
      (if a2 < 0 then
        f_X7_sheet_b31 E S a1 a2 a3
      else
        (if a3 ≤ (40 : Int32) then
          f_X7_sheet_b31 E S a1 a2 a3
        else
          some ((-2 : Int32), S)))))
/-! X7_cell -/
def f_X7_cell_b83 (E : EN) (S : ST) (t0 : Int32) (t1 : Int32) : Option (Int32 × ST) :=
  ck_ (ib_ t1 160) <|
  lt_ (sI S 85 0 t1.toNatClampNeg t0) fun S2 =>
  some ((1 : Int32), S2)
def f_X7_cell (E : EN) (S : ST) (a1 : Int32) (a2 : Int32) (a3 : Int32) : Option (Int32 × ST) :=
  bd_ (f_X7_isSheet E S a1) fun r3 =>
  (if r3 = 0 then
    some ((-2 : Int32), S)
  else
    ck_ (ib_ a1 4) <|
    (if 0 ≤ (gI S 83 0 a1.toNatClampNeg) then
      bd_ (f_X7_in E S a2 (0 : Int32) ((gI S 84 0 a1.toNatClampNeg) - (1 : Int32))) fun r5 =>
      (if r5 = 0 then
        some ((-12 : Int32), S)
      else
        (if (gI S 83 0 a1.toNatClampNeg) = 0 then
          f_X7_cell_b83 E S a3.toInt8.toInt32 (((40 : Int32) * a1) + a2)
        else
          (if (gI S 83 0 a1.toNatClampNeg) = (1 : Int32) then
            f_X7_cell_b83 E S a3.toInt16.toInt32 (((40 : Int32) * a1) + a2)
          else
            f_X7_cell_b83 E S a3 (((40 : Int32) * a1) + a2))))
    else
      some ((-11 : Int32), S)))
/-! X7_copy -/
def g_X7_copy_b142 (E : EN) (kh142 : ST → Int32 → Int32 → Int32 → Int32 → Option (Int32 × ST)) (S : ST) (v3 : Int32) (v4 : Int32) (v5 : Int32) (v6 : Int32) : Option (Int32 × ST) :=
  (if v5 ≤ v6 then
    some (v5, S)
  else
    ck_ (ib_ v6 40) <|
    ck_ (ib_ ((((40 : Int32) * v3) + v4) + v6) 160) <|
    lt_ (sI S 85 0 ((((40 : Int32) * v3) + v4) + v6).toNatClampNeg (gI S 86 0 v6.toNatClampNeg)) fun S3 =>
    lt_ (v6 + (1 : Int32)) fun x4 =>
    kh142 S3 v3 v4 v5 x4)
def f_X7_copy_b142 (E : EN) (n : Nat) : ST → Int32 → Int32 → Int32 → Int32 → Option (Int32 × ST) := fx_ (fun _ _ _ _ _ => none) (g_X7_copy_b142 E) n
def f_X7_copy_b139 (E : EN) (S : ST) (v3 : Int32) (v4 : Int32) (v5 : Int32) : Option (Int32 × ST) :=
  f_X7_copy_b142 E E.1 S v3 v4 v5 (0 : Int32)
def g_X7_copy_b105 (E : EN) (kh105 : ST → Int32 → Int32 → Int32 → Int32 → Int32 → Int32 → Option (Int32 × ST)) (S : ST) (v1 : Int32) (v2 : Int32) (v3 : Int32) (v4 : Int32) (v5 : Int32) (v6 : Int32) : Option (Int32 × ST) :=
  (if v5 ≤ v6 then
    f_X7_copy_b139 E S v3 v4 v5
  else
    ck_ (ib_ ((((40 : Int32) * v1) + v2) + v6) 160) <|
    ck_ (ib_ v6 40) <|
    lt_ (sI S 86 0 v6.toNatClampNeg (gI S 85 0 ((((40 : Int32) * v1) + v2) + v6).toNatClampNeg)) fun S7 =>
    lt_ (v6 + (1 : Int32)) fun x8 =>
    kh105 S7 v1 v2 v3 v4 v5 x8)
def f_X7_copy_b105 (E : EN) (n : Nat) : ST → Int32 → Int32 → Int32 → Int32 → Int32 → Int32 → Option (Int32 × ST) := fx_ (fun _ _ _ _ _ _ _ => none) (g_X7_copy_b105 E) n
def f_X7_copy (E : EN) (S : ST) (a1 : Int32) (a2 : Int32) (a3 : Int32) (a4 : Int32) (a5 : Int32) : Option (Int32 × ST) :=
  bd_ (f_X7_isSheet E S a1) fun r9 =>
  (if r9 = 0 then
    some ((-2 : Int32), S)
  else
    bd_ (f_X7_isSheet E S a3) fun r10 =>
    (if r10 = 0 then
      some ((-2 : Int32), S)
    else
      ck_ (ib_ a1 4) <|
      (if (gI S 83 0 a1.toNatClampNeg) < 0 then
        some ((-11 : Int32), S)
      else
        ck_ (ib_ a3 4) <|
        (if 0 ≤ (gI S 83 0 a3.toNatClampNeg) then
          (if (gI S 83 0 a1.toNatClampNeg) = (gI S 83 0 a3.toNatClampNeg) then
            (if a5 < 0 then
              some ((-12 : Int32), S)
            else
              (if a2 < 0 then
                some ((-12 : Int32), S)
              else
                (if a4 < 0 then
                  some ((-12 : Int32), S)
                else
                  (if ((gI S 84 0 a1.toNatClampNeg) - a5) < a2 then
                    some ((-12 : Int32), S)
                  else
                    (if a4 ≤ ((gI S 84 0 a3.toNatClampNeg) - a5) then
                      f_X7_copy_b105 E E.1 S a1 a2 a3 a4 a5 (0 : Int32)
                    else
                      some ((-12 : Int32), S))))))
          else
            some ((-13 : Int32), S))
        else
          some ((-11 : Int32), S)))))
/-! X7_pupils -/
def f_X7_pupils_b167 (E : EN) (kh64 : ST → Int32 → Int32 → Int32 → Int32 → Int32 → Option (Int32 × ST)) (S : ST) (v1 : Int32) (v3 : Int32) (v4 : Int32) (v5 : Int32) (v6 : Int32) : Option (Int32 × ST) :=
  lt_ (v6 + (1 : Int32)) fun x1 =>
  kh64 S v1 v3 v4 v5 x1
def g_X7_pupils_b64 (E : EN) (kh64 : ST → Int32 → Int32 → Int32 → Int32 → Int32 → Option (Int32 × ST)) (S : ST) (v1 : Int32) (v3 : Int32) (v4 : Int32) (v5 : Int32) (v6 : Int32) : Option (Int32 × ST) :=
  (if v4 ≤ v6 then
    some (v5, S)
  else
    (if v3 < 0 then
      some ((-12 : Int32), S)
    else
      ck_ (ib_ v1 4) <|
      (if v3 ≤ (((gI S 84 0 v1.toNatClampNeg) - ((2 : Int32) * v6)) - (2 : Int32)) then
        ck_ (ib_ ((((40 : Int32) * v1) + v3) + ((2 : Int32) * v6)) 160) <|
        lt_ (gI S 85 0 ((((40 : Int32) * v1) + v3) + ((2 : Int32) * v6)).toNatClampNeg) fun x4 =>
        ck_ (ib_ (((((40 : Int32) * v1) + v3) + ((2 : Int32) * v6)) + (1 : Int32)) 160) <|
        lt_ (gI S 85 0 (((((40 : Int32) * v1) + v3) + ((2 : Int32) * v6)) + (1 : Int32)).toNatClampNeg) fun x6 =>
        bd_ (f_X7_isNew E S x4 x6) fun r7 =>
        (if r7 = 0 then
          f_X7_pupils_b167 E kh64 S v1 v3 v4 v5 v6
        else
          (if (gI S 1 0 0) = (8 : Int32) then
            f_X7_pupils_b167 E kh64 S v1 v3 v4 v5 v6
          else
            bd_ (f_X7_comes E S x4 x6) fun S8 =>
            lt_ (v5 + (1 : Int32)) fun x9 =>
            f_X7_pupils_b167 E kh64 S8 v1 v3 v4 x9 v6))
      else
        some ((-12 : Int32), S))))
def f_X7_pupils_b64 (E : EN) (n : Nat) : ST → Int32 → Int32 → Int32 → Int32 → Int32 → Option (Int32 × ST) := fx_ (fun _ _ _ _ _ _ => none) (g_X7_pupils_b64 E) n
def f_X7_pupils (E : EN) (S : ST) (a1 : Int32) (a2 : Int32) (a3 : Int32) (a4 : Int32) : Option (Int32 × ST) :=
  bd_ (f_X7_isSheet E S a1) fun r10 =>
  (if r10 = 0 then
    some ((-2 : Int32), S)
  else
    bd_ (f_X7_in E S a2 (0 : Int32) (2 : Int32)) fun r11 =>
    (if r11 = 0 then
      some ((-2 : Int32), S)
    else
      bd_ (f_X7_in E S a4 (0 : Int32) (8 : Int32)) fun r12 =>
      (if r12 = 0 then
        some ((-2 : Int32), S)
      else
        ck_ (ib_ a1 4) <|
        (if 0 ≤ (gI S 83 0 a1.toNatClampNeg) then
          (if (gI S 83 0 a1.toNatClampNeg) = a2 then
            f_X7_pupils_b64 E E.1 S a1 a3 a4 (0 : Int32) (0 : Int32)
          else
            some ((-13 : Int32), S))
        else
          some ((-11 : Int32), S)))))
/-! X7_taken -/
def f_X7_taken_b60 (E : EN) (S : ST) (v1 : Int32) : Option Int32 :=
  ck_ (ib_ v1 8) <|
  some (gI S 44 0 v1.toNatClampNeg)
def f_X7_taken_b50 (E : EN) (S : ST) (v1 : Int32) (v2 : Int32) (v3 : Int32) : Option Int32 :=
  (if v2 = (3 : Int32) then
    (if v3 = (5 : Int32) then
      f_X7_taken_b60 E S v1
    else
      some (-13 : Int32))
  else
    some (-13 : Int32))
def f_X7_taken (E : EN) (S : ST) (a1 : Int32) (a2 : Int32) : Option Int32 :=
  bd_ (f_X7_in E S a2 (0 : Int32) (5 : Int32)) fun r2 =>
  (if r2 = 0 then
    some (-2 : Int32)
  else
    bd_ (f_X7_isPupil E S a1) fun r3 =>
    (if r3 = 0 then
      some (-11 : Int32)
    else
      ck_ (ib_ a1 8) <|
      lt_ (gI S 41 0 a1.toNatClampNeg) fun x5 =>
      (if a2 = 0 then
        f_X7_taken_b60 E S a1
      else
        (if x5 = a2 then
          f_X7_taken_b60 E S a1
        else
          (if a2 = (1 : Int32) then
            (if x5 = (4 : Int32) then
              f_X7_taken_b60 E S a1
            else
              f_X7_taken_b50 E S a1 a2 x5)
          else
            f_X7_taken_b50 E S a1 a2 x5)))))
theorem hd_J7_fill_031fb : yJ7_fill_031fb.cls ≠ "java/lang/invoke/MethodHandle" ∧ yJ7_fill_031fb.cls ≠ "java/lang/invoke/VarHandle" ∧ (parseMethodDescriptor yJ7_fill_031fb.desc).map (fun d => d.parameters.length) = some 2 := ⟨by decide, by decide, by decide +kernel⟩
theorem hd_X0_rely : yX0_rely.cls ≠ "java/lang/invoke/MethodHandle" ∧ yX0_rely.cls ≠ "java/lang/invoke/VarHandle" ∧ (parseMethodDescriptor yX0_rely.desc).map (fun d => d.parameters.length) = some 3 := ⟨by decide, by decide, by decide +kernel⟩
theorem hd_X0_joined : yX0_joined.cls ≠ "java/lang/invoke/MethodHandle" ∧ yX0_joined.cls ≠ "java/lang/invoke/VarHandle" ∧ (parseMethodDescriptor yX0_joined.desc).map (fun d => d.parameters.length) = some 3 := ⟨by decide, by decide, by decide +kernel⟩
theorem hd_X0_worth : yX0_worth.cls ≠ "java/lang/invoke/MethodHandle" ∧ yX0_worth.cls ≠ "java/lang/invoke/VarHandle" ∧ (parseMethodDescriptor yX0_worth.desc).map (fun d => d.parameters.length) = some 1 := ⟨by decide, by decide, by decide +kernel⟩
theorem hd_X0_asks : yX0_asks.cls ≠ "java/lang/invoke/MethodHandle" ∧ yX0_asks.cls ≠ "java/lang/invoke/VarHandle" ∧ (parseMethodDescriptor yX0_asks.desc).map (fun d => d.parameters.length) = some 5 := ⟨by decide, by decide, by decide +kernel⟩
theorem hd_X1_begin : yX1_begin.cls ≠ "java/lang/invoke/MethodHandle" ∧ yX1_begin.cls ≠ "java/lang/invoke/VarHandle" ∧ (parseMethodDescriptor yX1_begin.desc).map (fun d => d.parameters.length) = some 4 := ⟨by decide, by decide, by decide +kernel⟩
theorem hd_X1_pass : yX1_pass.cls ≠ "java/lang/invoke/MethodHandle" ∧ yX1_pass.cls ≠ "java/lang/invoke/VarHandle" ∧ (parseMethodDescriptor yX1_pass.desc).map (fun d => d.parameters.length) = some 2 := ⟨by decide, by decide, by decide +kernel⟩
theorem hd_X6_held : yX6_held.cls ≠ "java/lang/invoke/MethodHandle" ∧ yX6_held.cls ≠ "java/lang/invoke/VarHandle" ∧ (parseMethodDescriptor yX6_held.desc).map (fun d => d.parameters.length) = some 1 := ⟨by decide, by decide, by decide +kernel⟩
theorem hd_X1_settle : yX1_settle.cls ≠ "java/lang/invoke/MethodHandle" ∧ yX1_settle.cls ≠ "java/lang/invoke/VarHandle" ∧ (parseMethodDescriptor yX1_settle.desc).map (fun d => d.parameters.length) = some 2 := ⟨by decide, by decide, by decide +kernel⟩
theorem hd_X1_bounded : yX1_bounded.cls ≠ "java/lang/invoke/MethodHandle" ∧ yX1_bounded.cls ≠ "java/lang/invoke/VarHandle" ∧ (parseMethodDescriptor yX1_bounded.desc).map (fun d => d.parameters.length) = some 1 := ⟨by decide, by decide, by decide +kernel⟩
theorem hd_X1_from : yX1_from.cls ≠ "java/lang/invoke/MethodHandle" ∧ yX1_from.cls ≠ "java/lang/invoke/VarHandle" ∧ (parseMethodDescriptor yX1_from.desc).map (fun d => d.parameters.length) = some 2 := ⟨by decide, by decide, by decide +kernel⟩
theorem hd_X1_sure : yX1_sure.cls ≠ "java/lang/invoke/MethodHandle" ∧ yX1_sure.cls ≠ "java/lang/invoke/VarHandle" ∧ (parseMethodDescriptor yX1_sure.desc).map (fun d => d.parameters.length) = some 1 := ⟨by decide, by decide, by decide +kernel⟩
theorem hd_X1_twice : yX1_twice.cls ≠ "java/lang/invoke/MethodHandle" ∧ yX1_twice.cls ≠ "java/lang/invoke/VarHandle" ∧ (parseMethodDescriptor yX1_twice.desc).map (fun d => d.parameters.length) = some 1 := ⟨by decide, by decide, by decide +kernel⟩
theorem hd_X1_unsure : yX1_unsure.cls ≠ "java/lang/invoke/MethodHandle" ∧ yX1_unsure.cls ≠ "java/lang/invoke/VarHandle" ∧ (parseMethodDescriptor yX1_unsure.desc).map (fun d => d.parameters.length) = some 1 := ⟨by decide, by decide, by decide +kernel⟩
theorem hd_X1_wrongTwice : yX1_wrongTwice.cls ≠ "java/lang/invoke/MethodHandle" ∧ yX1_wrongTwice.cls ≠ "java/lang/invoke/VarHandle" ∧ (parseMethodDescriptor yX1_wrongTwice.desc).map (fun d => d.parameters.length) = some 1 := ⟨by decide, by decide, by decide +kernel⟩
theorem hd_X1_wish : yX1_wish.cls ≠ "java/lang/invoke/MethodHandle" ∧ yX1_wish.cls ≠ "java/lang/invoke/VarHandle" ∧ (parseMethodDescriptor yX1_wish.desc).map (fun d => d.parameters.length) = some 1 := ⟨by decide, by decide, by decide +kernel⟩
theorem hd_X1_follow : yX1_follow.cls ≠ "java/lang/invoke/MethodHandle" ∧ yX1_follow.cls ≠ "java/lang/invoke/VarHandle" ∧ (parseMethodDescriptor yX1_follow.desc).map (fun d => d.parameters.length) = some 2 := ⟨by decide, by decide, by decide +kernel⟩
theorem hd_X1_weightsAt : yX1_weightsAt.cls ≠ "java/lang/invoke/MethodHandle" ∧ yX1_weightsAt.cls ≠ "java/lang/invoke/VarHandle" ∧ (parseMethodDescriptor yX1_weightsAt.desc).map (fun d => d.parameters.length) = some 1 := ⟨by decide, by decide, by decide +kernel⟩
theorem hd_X1_classThen : yX1_classThen.cls ≠ "java/lang/invoke/MethodHandle" ∧ yX1_classThen.cls ≠ "java/lang/invoke/VarHandle" ∧ (parseMethodDescriptor yX1_classThen.desc).map (fun d => d.parameters.length) = some 1 := ⟨by decide, by decide, by decide +kernel⟩
theorem hd_X1_movedThen : yX1_movedThen.cls ≠ "java/lang/invoke/MethodHandle" ∧ yX1_movedThen.cls ≠ "java/lang/invoke/VarHandle" ∧ (parseMethodDescriptor yX1_movedThen.desc).map (fun d => d.parameters.length) = some 1 := ⟨by decide, by decide, by decide +kernel⟩
theorem hd_X1_together : yX1_together.cls ≠ "java/lang/invoke/MethodHandle" ∧ yX1_together.cls ≠ "java/lang/invoke/VarHandle" ∧ (parseMethodDescriptor yX1_together.desc).map (fun d => d.parameters.length) = some 1 := ⟨by decide, by decide, by decide +kernel⟩
theorem hd_X1_fit : yX1_fit.cls ≠ "java/lang/invoke/MethodHandle" ∧ yX1_fit.cls ≠ "java/lang/invoke/VarHandle" ∧ (parseMethodDescriptor yX1_fit.desc).map (fun d => d.parameters.length) = some 1 := ⟨by decide, by decide, by decide +kernel⟩
theorem hd_X1_share : yX1_share.cls ≠ "java/lang/invoke/MethodHandle" ∧ yX1_share.cls ≠ "java/lang/invoke/VarHandle" ∧ (parseMethodDescriptor yX1_share.desc).map (fun d => d.parameters.length) = some 1 := ⟨by decide, by decide, by decide +kernel⟩
theorem hd_X1_endsNow : yX1_endsNow.cls ≠ "java/lang/invoke/MethodHandle" ∧ yX1_endsNow.cls ≠ "java/lang/invoke/VarHandle" ∧ (parseMethodDescriptor yX1_endsNow.desc).map (fun d => d.parameters.length) = some 0 := ⟨by decide, by decide, by decide +kernel⟩
theorem hd_X1_ends : yX1_ends.cls ≠ "java/lang/invoke/MethodHandle" ∧ yX1_ends.cls ≠ "java/lang/invoke/VarHandle" ∧ (parseMethodDescriptor yX1_ends.desc).map (fun d => d.parameters.length) = some 1 := ⟨by decide, by decide, by decide +kernel⟩
theorem hd_J6_bitCount_0f7a4 : yJ6_bitCount_0f7a4.cls ≠ "java/lang/invoke/MethodHandle" ∧ yJ6_bitCount_0f7a4.cls ≠ "java/lang/invoke/VarHandle" ∧ (parseMethodDescriptor yJ6_bitCount_0f7a4.desc).map (fun d => d.parameters.length) = some 1 := ⟨by decide, by decide, by decide +kernel⟩
theorem hd_X1_rights : yX1_rights.cls ≠ "java/lang/invoke/MethodHandle" ∧ yX1_rights.cls ≠ "java/lang/invoke/VarHandle" ∧ (parseMethodDescriptor yX1_rights.desc).map (fun d => d.parameters.length) = some 1 := ⟨by decide, by decide, by decide +kernel⟩
theorem hd_X1_best : yX1_best.cls ≠ "java/lang/invoke/MethodHandle" ∧ yX1_best.cls ≠ "java/lang/invoke/VarHandle" ∧ (parseMethodDescriptor yX1_best.desc).map (fun d => d.parameters.length) = some 1 := ⟨by decide, by decide, by decide +kernel⟩
theorem hd_X1_bestMove : yX1_bestMove.cls ≠ "java/lang/invoke/MethodHandle" ∧ yX1_bestMove.cls ≠ "java/lang/invoke/VarHandle" ∧ (parseMethodDescriptor yX1_bestMove.desc).map (fun d => d.parameters.length) = some 1 := ⟨by decide, by decide, by decide +kernel⟩
theorem hd_X2_together : yX2_together.cls ≠ "java/lang/invoke/MethodHandle" ∧ yX2_together.cls ≠ "java/lang/invoke/VarHandle" ∧ (parseMethodDescriptor yX2_together.desc).map (fun d => d.parameters.length) = some 0 := ⟨by decide, by decide, by decide +kernel⟩
theorem hd_X6_common : yX6_common.cls ≠ "java/lang/invoke/MethodHandle" ∧ yX6_common.cls ≠ "java/lang/invoke/VarHandle" ∧ (parseMethodDescriptor yX6_common.desc).map (fun d => d.parameters.length) = some 2 := ⟨by decide, by decide, by decide +kernel⟩
theorem hd_X2_takes : yX2_takes.cls ≠ "java/lang/invoke/MethodHandle" ∧ yX2_takes.cls ≠ "java/lang/invoke/VarHandle" ∧ (parseMethodDescriptor yX2_takes.desc).map (fun d => d.parameters.length) = some 1 := ⟨by decide, by decide, by decide +kernel⟩
theorem hd_X2_keep : yX2_keep.cls ≠ "java/lang/invoke/MethodHandle" ∧ yX2_keep.cls ≠ "java/lang/invoke/VarHandle" ∧ (parseMethodDescriptor yX2_keep.desc).map (fun d => d.parameters.length) = some 0 := ⟨by decide, by decide, by decide +kernel⟩
theorem hd_X2_lay : yX2_lay.cls ≠ "java/lang/invoke/MethodHandle" ∧ yX2_lay.cls ≠ "java/lang/invoke/VarHandle" ∧ (parseMethodDescriptor yX2_lay.desc).map (fun d => d.parameters.length) = some 0 := ⟨by decide, by decide, by decide +kernel⟩
theorem hd_X3_isDigit : yX3_isDigit.cls ≠ "java/lang/invoke/MethodHandle" ∧ yX3_isDigit.cls ≠ "java/lang/invoke/VarHandle" ∧ (parseMethodDescriptor yX3_isDigit.desc).map (fun d => d.parameters.length) = some 1 := ⟨by decide, by decide, by decide +kernel⟩
theorem hd_X3_isLetter : yX3_isLetter.cls ≠ "java/lang/invoke/MethodHandle" ∧ yX3_isLetter.cls ≠ "java/lang/invoke/VarHandle" ∧ (parseMethodDescriptor yX3_isLetter.desc).map (fun d => d.parameters.length) = some 1 := ⟨by decide, by decide, by decide +kernel⟩
theorem hd_X3_isSign : yX3_isSign.cls ≠ "java/lang/invoke/MethodHandle" ∧ yX3_isSign.cls ≠ "java/lang/invoke/VarHandle" ∧ (parseMethodDescriptor yX3_isSign.desc).map (fun d => d.parameters.length) = some 1 := ⟨by decide, by decide, by decide +kernel⟩
theorem hd_X3_number : yX3_number.cls ≠ "java/lang/invoke/MethodHandle" ∧ yX3_number.cls ≠ "java/lang/invoke/VarHandle" ∧ (parseMethodDescriptor yX3_number.desc).map (fun d => d.parameters.length) = some 0 := ⟨by decide, by decide, by decide +kernel⟩
theorem hd_J0_isLatin1_aae02 : yJ0_isLatin1_aae02.cls ≠ "java/lang/invoke/MethodHandle" ∧ yJ0_isLatin1_aae02.cls ≠ "java/lang/invoke/VarHandle" ∧ (parseMethodDescriptor yJ0_isLatin1_aae02.desc).map (fun d => d.parameters.length) = some 0 := ⟨by decide, by decide, by decide +kernel⟩
theorem hd_J3_checkIndex_8e157 : yJ3_checkIndex_8e157.cls ≠ "java/lang/invoke/MethodHandle" ∧ yJ3_checkIndex_8e157.cls ≠ "java/lang/invoke/VarHandle" ∧ (parseMethodDescriptor yJ3_checkIndex_8e157.desc).map (fun d => d.parameters.length) = some 3 := ⟨by decide, by decide, by decide +kernel⟩
theorem hd_J0_checkIndex_df160 : yJ0_checkIndex_df160.cls ≠ "java/lang/invoke/MethodHandle" ∧ yJ0_checkIndex_df160.cls ≠ "java/lang/invoke/VarHandle" ∧ (parseMethodDescriptor yJ0_checkIndex_df160.desc).map (fun d => d.parameters.length) = some 2 := ⟨by decide, by decide, by decide +kernel⟩
theorem hd_J1_charAt_3b067 : yJ1_charAt_3b067.cls ≠ "java/lang/invoke/MethodHandle" ∧ yJ1_charAt_3b067.cls ≠ "java/lang/invoke/VarHandle" ∧ (parseMethodDescriptor yJ1_charAt_3b067.desc).map (fun d => d.parameters.length) = some 2 := ⟨by decide, by decide, by decide +kernel⟩
theorem hd_J0_charAt_5068e : yJ0_charAt_5068e.cls ≠ "java/lang/invoke/MethodHandle" ∧ yJ0_charAt_5068e.cls ≠ "java/lang/invoke/VarHandle" ∧ (parseMethodDescriptor yJ0_charAt_5068e.desc).map (fun d => d.parameters.length) = some 1 := ⟨by decide, by decide, by decide +kernel⟩
theorem hd_J0_coder_7d493 : yJ0_coder_7d493.cls ≠ "java/lang/invoke/MethodHandle" ∧ yJ0_coder_7d493.cls ≠ "java/lang/invoke/VarHandle" ∧ (parseMethodDescriptor yJ0_coder_7d493.desc).map (fun d => d.parameters.length) = some 0 := ⟨by decide, by decide, by decide +kernel⟩
theorem hd_J0_length_8abf5 : yJ0_length_8abf5.cls ≠ "java/lang/invoke/MethodHandle" ∧ yJ0_length_8abf5.cls ≠ "java/lang/invoke/VarHandle" ∧ (parseMethodDescriptor yJ0_length_8abf5.desc).map (fun d => d.parameters.length) = some 0 := ⟨by decide, by decide, by decide +kernel⟩
theorem hd_X3_spelt : yX3_spelt.cls ≠ "java/lang/invoke/MethodHandle" ∧ yX3_spelt.cls ≠ "java/lang/invoke/VarHandle" ∧ (parseMethodDescriptor yX3_spelt.desc).map (fun d => d.parameters.length) = some 1 := ⟨by decide, by decide, by decide +kernel⟩
theorem hd_X3_word : yX3_word.cls ≠ "java/lang/invoke/MethodHandle" ∧ yX3_word.cls ≠ "java/lang/invoke/VarHandle" ∧ (parseMethodDescriptor yX3_word.desc).map (fun d => d.parameters.length) = some 0 := ⟨by decide, by decide, by decide +kernel⟩
theorem hd_X3_advance : yX3_advance.cls ≠ "java/lang/invoke/MethodHandle" ∧ yX3_advance.cls ≠ "java/lang/invoke/VarHandle" ∧ (parseMethodDescriptor yX3_advance.desc).map (fun d => d.parameters.length) = some 0 := ⟨by decide, by decide, by decide +kernel⟩
theorem hd_X3_emit : yX3_emit.cls ≠ "java/lang/invoke/MethodHandle" ∧ yX3_emit.cls ≠ "java/lang/invoke/VarHandle" ∧ (parseMethodDescriptor yX3_emit.desc).map (fun d => d.parameters.length) = some 1 := ⟨by decide, by decide, by decide +kernel⟩
theorem hd_X3_refuse : yX3_refuse.cls ≠ "java/lang/invoke/MethodHandle" ∧ yX3_refuse.cls ≠ "java/lang/invoke/VarHandle" ∧ (parseMethodDescriptor yX3_refuse.desc).map (fun d => d.parameters.length) = some 0 := ⟨by decide, by decide, by decide +kernel⟩
theorem hd_X3_opens : yX3_opens.cls ≠ "java/lang/invoke/MethodHandle" ∧ yX3_opens.cls ≠ "java/lang/invoke/VarHandle" ∧ (parseMethodDescriptor yX3_opens.desc).map (fun d => d.parameters.length) = some 0 := ⟨by decide, by decide, by decide +kernel⟩
theorem hd_X3_take : yX3_take.cls ≠ "java/lang/invoke/MethodHandle" ∧ yX3_take.cls ≠ "java/lang/invoke/VarHandle" ∧ (parseMethodDescriptor yX3_take.desc).map (fun d => d.parameters.length) = some 1 := ⟨by decide, by decide, by decide +kernel⟩
theorem hd_X3_readOr : yX3_readOr.cls ≠ "java/lang/invoke/MethodHandle" ∧ yX3_readOr.cls ≠ "java/lang/invoke/VarHandle" ∧ (parseMethodDescriptor yX3_readOr.desc).map (fun d => d.parameters.length) = some 0 := ⟨by decide, by decide, by decide +kernel⟩
theorem hd_X3_readAnd : yX3_readAnd.cls ≠ "java/lang/invoke/MethodHandle" ∧ yX3_readAnd.cls ≠ "java/lang/invoke/VarHandle" ∧ (parseMethodDescriptor yX3_readAnd.desc).map (fun d => d.parameters.length) = some 0 := ⟨by decide, by decide, by decide +kernel⟩
theorem hd_X3_readNot : yX3_readNot.cls ≠ "java/lang/invoke/MethodHandle" ∧ yX3_readNot.cls ≠ "java/lang/invoke/VarHandle" ∧ (parseMethodDescriptor yX3_readNot.desc).map (fun d => d.parameters.length) = some 0 := ⟨by decide, by decide, by decide +kernel⟩
theorem hd_X3_readSum : yX3_readSum.cls ≠ "java/lang/invoke/MethodHandle" ∧ yX3_readSum.cls ≠ "java/lang/invoke/VarHandle" ∧ (parseMethodDescriptor yX3_readSum.desc).map (fun d => d.parameters.length) = some 0 := ⟨by decide, by decide, by decide +kernel⟩
theorem hd_X3_readTerm : yX3_readTerm.cls ≠ "java/lang/invoke/MethodHandle" ∧ yX3_readTerm.cls ≠ "java/lang/invoke/VarHandle" ∧ (parseMethodDescriptor yX3_readTerm.desc).map (fun d => d.parameters.length) = some 0 := ⟨by decide, by decide, by decide +kernel⟩
theorem hd_X3_readOne : yX3_readOne.cls ≠ "java/lang/invoke/MethodHandle" ∧ yX3_readOne.cls ≠ "java/lang/invoke/VarHandle" ∧ (parseMethodDescriptor yX3_readOne.desc).map (fun d => d.parameters.length) = some 0 := ⟨by decide, by decide, by decide +kernel⟩
theorem hd_X3_read : yX3_read.cls ≠ "java/lang/invoke/MethodHandle" ∧ yX3_read.cls ≠ "java/lang/invoke/VarHandle" ∧ (parseMethodDescriptor yX3_read.desc).map (fun d => d.parameters.length) = some 1 := ⟨by decide, by decide, by decide +kernel⟩
theorem hd_J7_fill_53178 : yJ7_fill_53178.cls ≠ "java/lang/invoke/MethodHandle" ∧ yJ7_fill_53178.cls ≠ "java/lang/invoke/VarHandle" ∧ (parseMethodDescriptor yJ7_fill_53178.desc).map (fun d => d.parameters.length) = some 2 := ⟨by decide, by decide, by decide +kernel⟩
theorem hd_X4_becomes : yX4_becomes.cls ≠ "java/lang/invoke/MethodHandle" ∧ yX4_becomes.cls ≠ "java/lang/invoke/VarHandle" ∧ (parseMethodDescriptor yX4_becomes.desc).map (fun d => d.parameters.length) = some 2 := ⟨by decide, by decide, by decide +kernel⟩
theorem hd_X4_cutDown : yX4_cutDown.cls ≠ "java/lang/invoke/MethodHandle" ∧ yX4_cutDown.cls ≠ "java/lang/invoke/VarHandle" ∧ (parseMethodDescriptor yX4_cutDown.desc).map (fun d => d.parameters.length) = some 1 := ⟨by decide, by decide, by decide +kernel⟩
theorem hd_X4_within : yX4_within.cls ≠ "java/lang/invoke/MethodHandle" ∧ yX4_within.cls ≠ "java/lang/invoke/VarHandle" ∧ (parseMethodDescriptor yX4_within.desc).map (fun d => d.parameters.length) = some 1 := ⟨by decide, by decide, by decide +kernel⟩
theorem hd_X4_squares : yX4_squares.cls ≠ "java/lang/invoke/MethodHandle" ∧ yX4_squares.cls ≠ "java/lang/invoke/VarHandle" ∧ (parseMethodDescriptor yX4_squares.desc).map (fun d => d.parameters.length) = some 1 := ⟨by decide, by decide, by decide +kernel⟩
theorem hd_X6_known : yX6_known.cls ≠ "java/lang/invoke/MethodHandle" ∧ yX6_known.cls ≠ "java/lang/invoke/VarHandle" ∧ (parseMethodDescriptor yX6_known.desc).map (fun d => d.parameters.length) = some 1 := ⟨by decide, by decide, by decide +kernel⟩
theorem hd_X6_weigh : yX6_weigh.cls ≠ "java/lang/invoke/MethodHandle" ∧ yX6_weigh.cls ≠ "java/lang/invoke/VarHandle" ∧ (parseMethodDescriptor yX6_weigh.desc).map (fun d => d.parameters.length) = some 2 := ⟨by decide, by decide, by decide +kernel⟩
theorem hd_X6_told : yX6_told.cls ≠ "java/lang/invoke/MethodHandle" ∧ yX6_told.cls ≠ "java/lang/invoke/VarHandle" ∧ (parseMethodDescriptor yX6_told.desc).map (fun d => d.parameters.length) = some 2 := ⟨by decide, by decide, by decide +kernel⟩
theorem hd_X6_feed : yX6_feed.cls ≠ "java/lang/invoke/MethodHandle" ∧ yX6_feed.cls ≠ "java/lang/invoke/VarHandle" ∧ (parseMethodDescriptor yX6_feed.desc).map (fun d => d.parameters.length) = some 2 := ⟨by decide, by decide, by decide +kernel⟩
theorem hd_X6_force : yX6_force.cls ≠ "java/lang/invoke/MethodHandle" ∧ yX6_force.cls ≠ "java/lang/invoke/VarHandle" ∧ (parseMethodDescriptor yX6_force.desc).map (fun d => d.parameters.length) = some 1 := ⟨by decide, by decide, by decide +kernel⟩
theorem hd_X6_says : yX6_says.cls ≠ "java/lang/invoke/MethodHandle" ∧ yX6_says.cls ≠ "java/lang/invoke/VarHandle" ∧ (parseMethodDescriptor yX6_says.desc).map (fun d => d.parameters.length) = some 3 := ⟨by decide, by decide, by decide +kernel⟩
theorem hd_X6_areMarks : yX6_areMarks.cls ≠ "java/lang/invoke/MethodHandle" ∧ yX6_areMarks.cls ≠ "java/lang/invoke/VarHandle" ∧ (parseMethodDescriptor yX6_areMarks.desc).map (fun d => d.parameters.length) = some 1 := ⟨by decide, by decide, by decide +kernel⟩
theorem hd_X6_start : yX6_start.cls ≠ "java/lang/invoke/MethodHandle" ∧ yX6_start.cls ≠ "java/lang/invoke/VarHandle" ∧ (parseMethodDescriptor yX6_start.desc).map (fun d => d.parameters.length) = some 4 := ⟨by decide, by decide, by decide +kernel⟩
theorem hd_X6_follow : yX6_follow.cls ≠ "java/lang/invoke/MethodHandle" ∧ yX6_follow.cls ≠ "java/lang/invoke/VarHandle" ∧ (parseMethodDescriptor yX6_follow.desc).map (fun d => d.parameters.length) = some 2 := ⟨by decide, by decide, by decide +kernel⟩
theorem hd_X6_isPart : yX6_isPart.cls ≠ "java/lang/invoke/MethodHandle" ∧ yX6_isPart.cls ≠ "java/lang/invoke/VarHandle" ∧ (parseMethodDescriptor yX6_isPart.desc).map (fun d => d.parameters.length) = some 1 := ⟨by decide, by decide, by decide +kernel⟩
theorem hd_X6_lowest : yX6_lowest.cls ≠ "java/lang/invoke/MethodHandle" ∧ yX6_lowest.cls ≠ "java/lang/invoke/VarHandle" ∧ (parseMethodDescriptor yX6_lowest.desc).map (fun d => d.parameters.length) = some 3 := ⟨by decide, by decide, by decide +kernel⟩
theorem hd_X6_thought : yX6_thought.cls ≠ "java/lang/invoke/MethodHandle" ∧ yX6_thought.cls ≠ "java/lang/invoke/VarHandle" ∧ (parseMethodDescriptor yX6_thought.desc).map (fun d => d.parameters.length) = some 4 := ⟨by decide, by decide, by decide +kernel⟩
theorem hd_X6_moves : yX6_moves.cls ≠ "java/lang/invoke/MethodHandle" ∧ yX6_moves.cls ≠ "java/lang/invoke/VarHandle" ∧ (parseMethodDescriptor yX6_moves.desc).map (fun d => d.parameters.length) = some 3 := ⟨by decide, by decide, by decide +kernel⟩
theorem hd_X6_grown : yX6_grown.cls ≠ "java/lang/invoke/MethodHandle" ∧ yX6_grown.cls ≠ "java/lang/invoke/VarHandle" ∧ (parseMethodDescriptor yX6_grown.desc).map (fun d => d.parameters.length) = some 2 := ⟨by decide, by decide, by decide +kernel⟩
theorem hd_X6_likely : yX6_likely.cls ≠ "java/lang/invoke/MethodHandle" ∧ yX6_likely.cls ≠ "java/lang/invoke/VarHandle" ∧ (parseMethodDescriptor yX6_likely.desc).map (fun d => d.parameters.length) = some 3 := ⟨by decide, by decide, by decide +kernel⟩
theorem hd_X6_mean : yX6_mean.cls ≠ "java/lang/invoke/MethodHandle" ∧ yX6_mean.cls ≠ "java/lang/invoke/VarHandle" ∧ (parseMethodDescriptor yX6_mean.desc).map (fun d => d.parameters.length) = some 2 := ⟨by decide, by decide, by decide +kernel⟩
theorem hd_X6_endsBy : yX6_endsBy.cls ≠ "java/lang/invoke/MethodHandle" ∧ yX6_endsBy.cls ≠ "java/lang/invoke/VarHandle" ∧ (parseMethodDescriptor yX6_endsBy.desc).map (fun d => d.parameters.length) = some 4 := ⟨by decide, by decide, by decide +kernel⟩
theorem hd_X6_off : yX6_off.cls ≠ "java/lang/invoke/MethodHandle" ∧ yX6_off.cls ≠ "java/lang/invoke/VarHandle" ∧ (parseMethodDescriptor yX6_off.desc).map (fun d => d.parameters.length) = some 3 := ⟨by decide, by decide, by decide +kernel⟩
theorem hd_X6_rule : yX6_rule.cls ≠ "java/lang/invoke/MethodHandle" ∧ yX6_rule.cls ≠ "java/lang/invoke/VarHandle" ∧ (parseMethodDescriptor yX6_rule.desc).map (fun d => d.parameters.length) = some 2 := ⟨by decide, by decide, by decide +kernel⟩
theorem hd_X6_laid : yX6_laid.cls ≠ "java/lang/invoke/MethodHandle" ∧ yX6_laid.cls ≠ "java/lang/invoke/VarHandle" ∧ (parseMethodDescriptor yX6_laid.desc).map (fun d => d.parameters.length) = some 1 := ⟨by decide, by decide, by decide +kernel⟩
theorem hd_X6_likeliest : yX6_likeliest.cls ≠ "java/lang/invoke/MethodHandle" ∧ yX6_likeliest.cls ≠ "java/lang/invoke/VarHandle" ∧ (parseMethodDescriptor yX6_likeliest.desc).map (fun d => d.parameters.length) = some 1 := ⟨by decide, by decide, by decide +kernel⟩
theorem hd_X6_room : yX6_room.cls ≠ "java/lang/invoke/MethodHandle" ∧ yX6_room.cls ≠ "java/lang/invoke/VarHandle" ∧ (parseMethodDescriptor yX6_room.desc).map (fun d => d.parameters.length) = some 3 := ⟨by decide, by decide, by decide +kernel⟩
theorem hd_X6_summer : yX6_summer.cls ≠ "java/lang/invoke/MethodHandle" ∧ yX6_summer.cls ≠ "java/lang/invoke/VarHandle" ∧ (parseMethodDescriptor yX6_summer.desc).map (fun d => d.parameters.length) = some 2 := ⟨by decide, by decide, by decide +kernel⟩
theorem hd_X6_test : yX6_test.cls ≠ "java/lang/invoke/MethodHandle" ∧ yX6_test.cls ≠ "java/lang/invoke/VarHandle" ∧ (parseMethodDescriptor yX6_test.desc).map (fun d => d.parameters.length) = some 2 := ⟨by decide, by decide, by decide +kernel⟩
theorem hd_X6_leastEnds : yX6_leastEnds.cls ≠ "java/lang/invoke/MethodHandle" ∧ yX6_leastEnds.cls ≠ "java/lang/invoke/VarHandle" ∧ (parseMethodDescriptor yX6_leastEnds.desc).map (fun d => d.parameters.length) = some 2 := ⟨by decide, by decide, by decide +kernel⟩
theorem hd_X6_cut : yX6_cut.cls ≠ "java/lang/invoke/MethodHandle" ∧ yX6_cut.cls ≠ "java/lang/invoke/VarHandle" ∧ (parseMethodDescriptor yX6_cut.desc).map (fun d => d.parameters.length) = some 3 := ⟨by decide, by decide, by decide +kernel⟩
theorem hd_X6_image : yX6_image.cls ≠ "java/lang/invoke/MethodHandle" ∧ yX6_image.cls ≠ "java/lang/invoke/VarHandle" ∧ (parseMethodDescriptor yX6_image.desc).map (fun d => d.parameters.length) = some 0 := ⟨by decide, by decide, by decide +kernel⟩
theorem hd_X6_back : yX6_back.cls ≠ "java/lang/invoke/MethodHandle" ∧ yX6_back.cls ≠ "java/lang/invoke/VarHandle" ∧ (parseMethodDescriptor yX6_back.desc).map (fun d => d.parameters.length) = some 0 := ⟨by decide, by decide, by decide +kernel⟩
theorem hd_X6_allClasses : yX6_allClasses.cls ≠ "java/lang/invoke/MethodHandle" ∧ yX6_allClasses.cls ≠ "java/lang/invoke/VarHandle" ∧ (parseMethodDescriptor yX6_allClasses.desc).map (fun d => d.parameters.length) = some 0 := ⟨by decide, by decide, by decide +kernel⟩
theorem hd_X6_allWeights : yX6_allWeights.cls ≠ "java/lang/invoke/MethodHandle" ∧ yX6_allWeights.cls ≠ "java/lang/invoke/VarHandle" ∧ (parseMethodDescriptor yX6_allWeights.desc).map (fun d => d.parameters.length) = some 0 := ⟨by decide, by decide, by decide +kernel⟩
theorem hd_X6_count : yX6_count.cls ≠ "java/lang/invoke/MethodHandle" ∧ yX6_count.cls ≠ "java/lang/invoke/VarHandle" ∧ (parseMethodDescriptor yX6_count.desc).map (fun d => d.parameters.length) = some 1 := ⟨by decide, by decide, by decide +kernel⟩
theorem hd_X6_sheet : yX6_sheet.cls ≠ "java/lang/invoke/MethodHandle" ∧ yX6_sheet.cls ≠ "java/lang/invoke/VarHandle" ∧ (parseMethodDescriptor yX6_sheet.desc).map (fun d => d.parameters.length) = some 3 := ⟨by decide, by decide, by decide +kernel⟩
theorem hd_X6_cell : yX6_cell.cls ≠ "java/lang/invoke/MethodHandle" ∧ yX6_cell.cls ≠ "java/lang/invoke/VarHandle" ∧ (parseMethodDescriptor yX6_cell.desc).map (fun d => d.parameters.length) = some 3 := ⟨by decide, by decide, by decide +kernel⟩
theorem hd_X6_copy : yX6_copy.cls ≠ "java/lang/invoke/MethodHandle" ∧ yX6_copy.cls ≠ "java/lang/invoke/VarHandle" ∧ (parseMethodDescriptor yX6_copy.desc).map (fun d => d.parameters.length) = some 5 := ⟨by decide, by decide, by decide +kernel⟩
theorem hd_X6_isUnder : yX6_isUnder.cls ≠ "java/lang/invoke/MethodHandle" ∧ yX6_isUnder.cls ≠ "java/lang/invoke/VarHandle" ∧ (parseMethodDescriptor yX6_isUnder.desc).map (fun d => d.parameters.length) = some 2 := ⟨by decide, by decide, by decide +kernel⟩
theorem hd_X6_taken : yX6_taken.cls ≠ "java/lang/invoke/MethodHandle" ∧ yX6_taken.cls ≠ "java/lang/invoke/VarHandle" ∧ (parseMethodDescriptor yX6_taken.desc).map (fun d => d.parameters.length) = some 2 := ⟨by decide, by decide, by decide +kernel⟩
theorem hd_X7_in : yX7_in.cls ≠ "java/lang/invoke/MethodHandle" ∧ yX7_in.cls ≠ "java/lang/invoke/VarHandle" ∧ (parseMethodDescriptor yX7_in.desc).map (fun d => d.parameters.length) = some 3 := ⟨by decide, by decide, by decide +kernel⟩
theorem hd_X7_isPupil : yX7_isPupil.cls ≠ "java/lang/invoke/MethodHandle" ∧ yX7_isPupil.cls ≠ "java/lang/invoke/VarHandle" ∧ (parseMethodDescriptor yX7_isPupil.desc).map (fun d => d.parameters.length) = some 1 := ⟨by decide, by decide, by decide +kernel⟩
theorem hd_X7_isNew : yX7_isNew.cls ≠ "java/lang/invoke/MethodHandle" ∧ yX7_isNew.cls ≠ "java/lang/invoke/VarHandle" ∧ (parseMethodDescriptor yX7_isNew.desc).map (fun d => d.parameters.length) = some 2 := ⟨by decide, by decide, by decide +kernel⟩
theorem hd_X7_comes : yX7_comes.cls ≠ "java/lang/invoke/MethodHandle" ∧ yX7_comes.cls ≠ "java/lang/invoke/VarHandle" ∧ (parseMethodDescriptor yX7_comes.desc).map (fun d => d.parameters.length) = some 2 := ⟨by decide, by decide, by decide +kernel⟩
theorem hd_X7_pupil : yX7_pupil.cls ≠ "java/lang/invoke/MethodHandle" ∧ yX7_pupil.cls ≠ "java/lang/invoke/VarHandle" ∧ (parseMethodDescriptor yX7_pupil.desc).map (fun d => d.parameters.length) = some 2 := ⟨by decide, by decide, by decide +kernel⟩
theorem hd_X7_sumOf : yX7_sumOf.cls ≠ "java/lang/invoke/MethodHandle" ∧ yX7_sumOf.cls ≠ "java/lang/invoke/VarHandle" ∧ (parseMethodDescriptor yX7_sumOf.desc).map (fun d => d.parameters.length) = some 1 := ⟨by decide, by decide, by decide +kernel⟩
theorem hd_X7_weigh : yX7_weigh.cls ≠ "java/lang/invoke/MethodHandle" ∧ yX7_weigh.cls ≠ "java/lang/invoke/VarHandle" ∧ (parseMethodDescriptor yX7_weigh.desc).map (fun d => d.parameters.length) = some 2 := ⟨by decide, by decide, by decide +kernel⟩
theorem hd_X7_told : yX7_told.cls ≠ "java/lang/invoke/MethodHandle" ∧ yX7_told.cls ≠ "java/lang/invoke/VarHandle" ∧ (parseMethodDescriptor yX7_told.desc).map (fun d => d.parameters.length) = some 2 := ⟨by decide, by decide, by decide +kernel⟩
theorem hd_X7_feed : yX7_feed.cls ≠ "java/lang/invoke/MethodHandle" ∧ yX7_feed.cls ≠ "java/lang/invoke/VarHandle" ∧ (parseMethodDescriptor yX7_feed.desc).map (fun d => d.parameters.length) = some 2 := ⟨by decide, by decide, by decide +kernel⟩
theorem hd_X7_byteAt : yX7_byteAt.cls ≠ "java/lang/invoke/MethodHandle" ∧ yX7_byteAt.cls ≠ "java/lang/invoke/VarHandle" ∧ (parseMethodDescriptor yX7_byteAt.desc).map (fun d => d.parameters.length) = some 1 := ⟨by decide, by decide, by decide +kernel⟩
theorem hd_X7_isLetter : yX7_isLetter.cls ≠ "java/lang/invoke/MethodHandle" ∧ yX7_isLetter.cls ≠ "java/lang/invoke/VarHandle" ∧ (parseMethodDescriptor yX7_isLetter.desc).map (fun d => d.parameters.length) = some 1 := ⟨by decide, by decide, by decide +kernel⟩
theorem hd_X7_isDigit : yX7_isDigit.cls ≠ "java/lang/invoke/MethodHandle" ∧ yX7_isDigit.cls ≠ "java/lang/invoke/VarHandle" ∧ (parseMethodDescriptor yX7_isDigit.desc).map (fun d => d.parameters.length) = some 1 := ⟨by decide, by decide, by decide +kernel⟩
theorem hd_X7_isKey : yX7_isKey.cls ≠ "java/lang/invoke/MethodHandle" ∧ yX7_isKey.cls ≠ "java/lang/invoke/VarHandle" ∧ (parseMethodDescriptor yX7_isKey.desc).map (fun d => d.parameters.length) = some 1 := ⟨by decide, by decide, by decide +kernel⟩
theorem hd_X7_nameOf : yX7_nameOf.cls ≠ "java/lang/invoke/MethodHandle" ∧ yX7_nameOf.cls ≠ "java/lang/invoke/VarHandle" ∧ (parseMethodDescriptor yX7_nameOf.desc).map (fun d => d.parameters.length) = some 1 := ⟨by decide, by decide, by decide +kernel⟩
theorem hd_X7_look : yX7_look.cls ≠ "java/lang/invoke/MethodHandle" ∧ yX7_look.cls ≠ "java/lang/invoke/VarHandle" ∧ (parseMethodDescriptor yX7_look.desc).map (fun d => d.parameters.length) = some 0 := ⟨by decide, by decide, by decide +kernel⟩
theorem hd_X7_goOn : yX7_goOn.cls ≠ "java/lang/invoke/MethodHandle" ∧ yX7_goOn.cls ≠ "java/lang/invoke/VarHandle" ∧ (parseMethodDescriptor yX7_goOn.desc).map (fun d => d.parameters.length) = some 0 := ⟨by decide, by decide, by decide +kernel⟩
theorem hd_X7_isWord : yX7_isWord.cls ≠ "java/lang/invoke/MethodHandle" ∧ yX7_isWord.cls ≠ "java/lang/invoke/VarHandle" ∧ (parseMethodDescriptor yX7_isWord.desc).map (fun d => d.parameters.length) = some 1 := ⟨by decide, by decide, by decide +kernel⟩
theorem hd_X7_put : yX7_put.cls ≠ "java/lang/invoke/MethodHandle" ∧ yX7_put.cls ≠ "java/lang/invoke/VarHandle" ∧ (parseMethodDescriptor yX7_put.desc).map (fun d => d.parameters.length) = some 2 := ⟨by decide, by decide, by decide +kernel⟩
theorem hd_X7_top : yX7_top.cls ≠ "java/lang/invoke/MethodHandle" ∧ yX7_top.cls ≠ "java/lang/invoke/VarHandle" ∧ (parseMethodDescriptor yX7_top.desc).map (fun d => d.parameters.length) = some 0 := ⟨by decide, by decide, by decide +kernel⟩
theorem hd_X7_pushSign : yX7_pushSign.cls ≠ "java/lang/invoke/MethodHandle" ∧ yX7_pushSign.cls ≠ "java/lang/invoke/VarHandle" ∧ (parseMethodDescriptor yX7_pushSign.desc).map (fun d => d.parameters.length) = some 1 := ⟨by decide, by decide, by decide +kernel⟩
theorem hd_X7_strength : yX7_strength.cls ≠ "java/lang/invoke/MethodHandle" ∧ yX7_strength.cls ≠ "java/lang/invoke/VarHandle" ∧ (parseMethodDescriptor yX7_strength.desc).map (fun d => d.parameters.length) = some 1 := ⟨by decide, by decide, by decide +kernel⟩
theorem hd_X7_settle : yX7_settle.cls ≠ "java/lang/invoke/MethodHandle" ∧ yX7_settle.cls ≠ "java/lang/invoke/VarHandle" ∧ (parseMethodDescriptor yX7_settle.desc).map (fun d => d.parameters.length) = some 1 := ⟨by decide, by decide, by decide +kernel⟩
theorem hd_X7_opens : yX7_opens.cls ≠ "java/lang/invoke/MethodHandle" ∧ yX7_opens.cls ≠ "java/lang/invoke/VarHandle" ∧ (parseMethodDescriptor yX7_opens.desc).map (fun d => d.parameters.length) = some 1 := ⟨by decide, by decide, by decide +kernel⟩
theorem hd_X7_takesOne : yX7_takesOne.cls ≠ "java/lang/invoke/MethodHandle" ∧ yX7_takesOne.cls ≠ "java/lang/invoke/VarHandle" ∧ (parseMethodDescriptor yX7_takesOne.desc).map (fun d => d.parameters.length) = some 1 := ⟨by decide, by decide, by decide +kernel⟩
theorem hd_X7_takesSign : yX7_takesSign.cls ≠ "java/lang/invoke/MethodHandle" ∧ yX7_takesSign.cls ≠ "java/lang/invoke/VarHandle" ∧ (parseMethodDescriptor yX7_takesSign.desc).map (fun d => d.parameters.length) = some 0 := ⟨by decide, by decide, by decide +kernel⟩
theorem hd_X7_takesE : yX7_takesE.cls ≠ "java/lang/invoke/MethodHandle" ∧ yX7_takesE.cls ≠ "java/lang/invoke/VarHandle" ∧ (parseMethodDescriptor yX7_takesE.desc).map (fun d => d.parameters.length) = some 1 := ⟨by decide, by decide, by decide +kernel⟩
theorem hd_X7_takesPart : yX7_takesPart.cls ≠ "java/lang/invoke/MethodHandle" ∧ yX7_takesPart.cls ≠ "java/lang/invoke/VarHandle" ∧ (parseMethodDescriptor yX7_takesPart.desc).map (fun d => d.parameters.length) = some 3 := ⟨by decide, by decide, by decide +kernel⟩
theorem hd_X7_text : yX7_text.cls ≠ "java/lang/invoke/MethodHandle" ∧ yX7_text.cls ≠ "java/lang/invoke/VarHandle" ∧ (parseMethodDescriptor yX7_text.desc).map (fun d => d.parameters.length) = some 0 := ⟨by decide, by decide, by decide +kernel⟩
theorem hd_X7_force : yX7_force.cls ≠ "java/lang/invoke/MethodHandle" ∧ yX7_force.cls ≠ "java/lang/invoke/VarHandle" ∧ (parseMethodDescriptor yX7_force.desc).map (fun d => d.parameters.length) = some 1 := ⟨by decide, by decide, by decide +kernel⟩
theorem hd_X7_done : yX7_done.cls ≠ "java/lang/invoke/MethodHandle" ∧ yX7_done.cls ≠ "java/lang/invoke/VarHandle" ∧ (parseMethodDescriptor yX7_done.desc).map (fun d => d.parameters.length) = some 3 := ⟨by decide, by decide, by decide +kernel⟩
theorem hd_X7_tellsRule : yX7_tellsRule.cls ≠ "java/lang/invoke/MethodHandle" ∧ yX7_tellsRule.cls ≠ "java/lang/invoke/VarHandle" ∧ (parseMethodDescriptor yX7_tellsRule.desc).map (fun d => d.parameters.length) = some 1 := ⟨by decide, by decide, by decide +kernel⟩
theorem hd_X7_bounded : yX7_bounded.cls ≠ "java/lang/invoke/MethodHandle" ∧ yX7_bounded.cls ≠ "java/lang/invoke/VarHandle" ∧ (parseMethodDescriptor yX7_bounded.desc).map (fun d => d.parameters.length) = some 6 := ⟨by decide, by decide, by decide +kernel⟩
theorem hd_X7_says : yX7_says.cls ≠ "java/lang/invoke/MethodHandle" ∧ yX7_says.cls ≠ "java/lang/invoke/VarHandle" ∧ (parseMethodDescriptor yX7_says.desc).map (fun d => d.parameters.length) = some 3 := ⟨by decide, by decide, by decide +kernel⟩
theorem hd_X7_layRule : yX7_layRule.cls ≠ "java/lang/invoke/MethodHandle" ∧ yX7_layRule.cls ≠ "java/lang/invoke/VarHandle" ∧ (parseMethodDescriptor yX7_layRule.desc).map (fun d => d.parameters.length) = some 1 := ⟨by decide, by decide, by decide +kernel⟩
theorem hd_X7_goWeek : yX7_goWeek.cls ≠ "java/lang/invoke/MethodHandle" ∧ yX7_goWeek.cls ≠ "java/lang/invoke/VarHandle" ∧ (parseMethodDescriptor yX7_goWeek.desc).map (fun d => d.parameters.length) = some 2 := ⟨by decide, by decide, by decide +kernel⟩
theorem hd_X7_held : yX7_held.cls ≠ "java/lang/invoke/MethodHandle" ∧ yX7_held.cls ≠ "java/lang/invoke/VarHandle" ∧ (parseMethodDescriptor yX7_held.desc).map (fun d => d.parameters.length) = some 1 := ⟨by decide, by decide, by decide +kernel⟩
theorem hd_X7_move : yX7_move.cls ≠ "java/lang/invoke/MethodHandle" ∧ yX7_move.cls ≠ "java/lang/invoke/VarHandle" ∧ (parseMethodDescriptor yX7_move.desc).map (fun d => d.parameters.length) = some 2 := ⟨by decide, by decide, by decide +kernel⟩
theorem hd_X7_sumRow : yX7_sumRow.cls ≠ "java/lang/invoke/MethodHandle" ∧ yX7_sumRow.cls ≠ "java/lang/invoke/VarHandle" ∧ (parseMethodDescriptor yX7_sumRow.desc).map (fun d => d.parameters.length) = some 1 := ⟨by decide, by decide, by decide +kernel⟩
theorem hd_X7_sumFrom : yX7_sumFrom.cls ≠ "java/lang/invoke/MethodHandle" ∧ yX7_sumFrom.cls ≠ "java/lang/invoke/VarHandle" ∧ (parseMethodDescriptor yX7_sumFrom.desc).map (fun d => d.parameters.length) = some 2 := ⟨by decide, by decide, by decide +kernel⟩
theorem hd_X7_moveOf : yX7_moveOf.cls ≠ "java/lang/invoke/MethodHandle" ∧ yX7_moveOf.cls ≠ "java/lang/invoke/VarHandle" ∧ (parseMethodDescriptor yX7_moveOf.desc).map (fun d => d.parameters.length) = some 4 := ⟨by decide, by decide, by decide +kernel⟩
theorem hd_X7_begin : yX7_begin.cls ≠ "java/lang/invoke/MethodHandle" ∧ yX7_begin.cls ≠ "java/lang/invoke/VarHandle" ∧ (parseMethodDescriptor yX7_begin.desc).map (fun d => d.parameters.length) = some 2 := ⟨by decide, by decide, by decide +kernel⟩
theorem hd_X7_go : yX7_go.cls ≠ "java/lang/invoke/MethodHandle" ∧ yX7_go.cls ≠ "java/lang/invoke/VarHandle" ∧ (parseMethodDescriptor yX7_go.desc).map (fun d => d.parameters.length) = some 6 := ⟨by decide, by decide, by decide +kernel⟩
theorem hd_X7_areMarks : yX7_areMarks.cls ≠ "java/lang/invoke/MethodHandle" ∧ yX7_areMarks.cls ≠ "java/lang/invoke/VarHandle" ∧ (parseMethodDescriptor yX7_areMarks.desc).map (fun d => d.parameters.length) = some 1 := ⟨by decide, by decide, by decide +kernel⟩
theorem hd_X7_goMarks : yX7_goMarks.cls ≠ "java/lang/invoke/MethodHandle" ∧ yX7_goMarks.cls ≠ "java/lang/invoke/VarHandle" ∧ (parseMethodDescriptor yX7_goMarks.desc).map (fun d => d.parameters.length) = some 2 := ⟨by decide, by decide, by decide +kernel⟩
theorem hd_X7_divisor : yX7_divisor.cls ≠ "java/lang/invoke/MethodHandle" ∧ yX7_divisor.cls ≠ "java/lang/invoke/VarHandle" ∧ (parseMethodDescriptor yX7_divisor.desc).map (fun d => d.parameters.length) = some 2 := ⟨by decide, by decide, by decide +kernel⟩
theorem hd_X7_lowest : yX7_lowest.cls ≠ "java/lang/invoke/MethodHandle" ∧ yX7_lowest.cls ≠ "java/lang/invoke/VarHandle" ∧ (parseMethodDescriptor yX7_lowest.desc).map (fun d => d.parameters.length) = some 3 := ⟨by decide, by decide, by decide +kernel⟩
theorem hd_X7_thought : yX7_thought.cls ≠ "java/lang/invoke/MethodHandle" ∧ yX7_thought.cls ≠ "java/lang/invoke/VarHandle" ∧ (parseMethodDescriptor yX7_thought.desc).map (fun d => d.parameters.length) = some 4 := ⟨by decide, by decide, by decide +kernel⟩
theorem hd_X7_moves : yX7_moves.cls ≠ "java/lang/invoke/MethodHandle" ∧ yX7_moves.cls ≠ "java/lang/invoke/VarHandle" ∧ (parseMethodDescriptor yX7_moves.desc).map (fun d => d.parameters.length) = some 3 := ⟨by decide, by decide, by decide +kernel⟩
theorem hd_X7_hundreds : yX7_hundreds.cls ≠ "java/lang/invoke/MethodHandle" ∧ yX7_hundreds.cls ≠ "java/lang/invoke/VarHandle" ∧ (parseMethodDescriptor yX7_hundreds.desc).map (fun d => d.parameters.length) = some 1 := ⟨by decide, by decide, by decide +kernel⟩
theorem hd_X7_likely : yX7_likely.cls ≠ "java/lang/invoke/MethodHandle" ∧ yX7_likely.cls ≠ "java/lang/invoke/VarHandle" ∧ (parseMethodDescriptor yX7_likely.desc).map (fun d => d.parameters.length) = some 3 := ⟨by decide, by decide, by decide +kernel⟩
theorem hd_X7_allOf : yX7_allOf.cls ≠ "java/lang/invoke/MethodHandle" ∧ yX7_allOf.cls ≠ "java/lang/invoke/VarHandle" ∧ (parseMethodDescriptor yX7_allOf.desc).map (fun d => d.parameters.length) = some 1 := ⟨by decide, by decide, by decide +kernel⟩
theorem hd_X7_ending : yX7_ending.cls ≠ "java/lang/invoke/MethodHandle" ∧ yX7_ending.cls ≠ "java/lang/invoke/VarHandle" ∧ (parseMethodDescriptor yX7_ending.desc).map (fun d => d.parameters.length) = some 0 := ⟨by decide, by decide, by decide +kernel⟩
theorem hd_X7_meanOf : yX7_meanOf.cls ≠ "java/lang/invoke/MethodHandle" ∧ yX7_meanOf.cls ≠ "java/lang/invoke/VarHandle" ∧ (parseMethodDescriptor yX7_meanOf.desc).map (fun d => d.parameters.length) = some 4 := ⟨by decide, by decide, by decide +kernel⟩
theorem hd_X7_enter : yX7_enter.cls ≠ "java/lang/invoke/MethodHandle" ∧ yX7_enter.cls ≠ "java/lang/invoke/VarHandle" ∧ (parseMethodDescriptor yX7_enter.desc).map (fun d => d.parameters.length) = some 1 := ⟨by decide, by decide, by decide +kernel⟩
theorem hd_X7_bestOf : yX7_bestOf.cls ≠ "java/lang/invoke/MethodHandle" ∧ yX7_bestOf.cls ≠ "java/lang/invoke/VarHandle" ∧ (parseMethodDescriptor yX7_bestOf.desc).map (fun d => d.parameters.length) = some 1 := ⟨by decide, by decide, by decide +kernel⟩
theorem hd_X7_mean : yX7_mean.cls ≠ "java/lang/invoke/MethodHandle" ∧ yX7_mean.cls ≠ "java/lang/invoke/VarHandle" ∧ (parseMethodDescriptor yX7_mean.desc).map (fun d => d.parameters.length) = some 2 := ⟨by decide, by decide, by decide +kernel⟩
theorem hd_X7_off : yX7_off.cls ≠ "java/lang/invoke/MethodHandle" ∧ yX7_off.cls ≠ "java/lang/invoke/VarHandle" ∧ (parseMethodDescriptor yX7_off.desc).map (fun d => d.parameters.length) = some 3 := ⟨by decide, by decide, by decide +kernel⟩
theorem hd_X7_rule : yX7_rule.cls ≠ "java/lang/invoke/MethodHandle" ∧ yX7_rule.cls ≠ "java/lang/invoke/VarHandle" ∧ (parseMethodDescriptor yX7_rule.desc).map (fun d => d.parameters.length) = some 2 := ⟨by decide, by decide, by decide +kernel⟩
theorem hd_X7_isSheet : yX7_isSheet.cls ≠ "java/lang/invoke/MethodHandle" ∧ yX7_isSheet.cls ≠ "java/lang/invoke/VarHandle" ∧ (parseMethodDescriptor yX7_isSheet.desc).map (fun d => d.parameters.length) = some 1 := ⟨by decide, by decide, by decide +kernel⟩
theorem hd_X7_room : yX7_room.cls ≠ "java/lang/invoke/MethodHandle" ∧ yX7_room.cls ≠ "java/lang/invoke/VarHandle" ∧ (parseMethodDescriptor yX7_room.desc).map (fun d => d.parameters.length) = some 3 := ⟨by decide, by decide, by decide +kernel⟩
theorem hd_X7_becomes : yX7_becomes.cls ≠ "java/lang/invoke/MethodHandle" ∧ yX7_becomes.cls ≠ "java/lang/invoke/VarHandle" ∧ (parseMethodDescriptor yX7_becomes.desc).map (fun d => d.parameters.length) = some 1 := ⟨by decide, by decide, by decide +kernel⟩
theorem hd_X7_summer : yX7_summer.cls ≠ "java/lang/invoke/MethodHandle" ∧ yX7_summer.cls ≠ "java/lang/invoke/VarHandle" ∧ (parseMethodDescriptor yX7_summer.desc).map (fun d => d.parameters.length) = some 2 := ⟨by decide, by decide, by decide +kernel⟩
theorem hd_X7_test : yX7_test.cls ≠ "java/lang/invoke/MethodHandle" ∧ yX7_test.cls ≠ "java/lang/invoke/VarHandle" ∧ (parseMethodDescriptor yX7_test.desc).map (fun d => d.parameters.length) = some 2 := ⟨by decide, by decide, by decide +kernel⟩
theorem hd_X7_cut : yX7_cut.cls ≠ "java/lang/invoke/MethodHandle" ∧ yX7_cut.cls ≠ "java/lang/invoke/VarHandle" ∧ (parseMethodDescriptor yX7_cut.desc).map (fun d => d.parameters.length) = some 3 := ⟨by decide, by decide, by decide +kernel⟩
theorem hd_X7_image : yX7_image.cls ≠ "java/lang/invoke/MethodHandle" ∧ yX7_image.cls ≠ "java/lang/invoke/VarHandle" ∧ (parseMethodDescriptor yX7_image.desc).map (fun d => d.parameters.length) = some 0 := ⟨by decide, by decide, by decide +kernel⟩
theorem hd_X7_back : yX7_back.cls ≠ "java/lang/invoke/MethodHandle" ∧ yX7_back.cls ≠ "java/lang/invoke/VarHandle" ∧ (parseMethodDescriptor yX7_back.desc).map (fun d => d.parameters.length) = some 0 := ⟨by decide, by decide, by decide +kernel⟩
theorem hd_X7_count : yX7_count.cls ≠ "java/lang/invoke/MethodHandle" ∧ yX7_count.cls ≠ "java/lang/invoke/VarHandle" ∧ (parseMethodDescriptor yX7_count.desc).map (fun d => d.parameters.length) = some 1 := ⟨by decide, by decide, by decide +kernel⟩
theorem hd_X7_sheet : yX7_sheet.cls ≠ "java/lang/invoke/MethodHandle" ∧ yX7_sheet.cls ≠ "java/lang/invoke/VarHandle" ∧ (parseMethodDescriptor yX7_sheet.desc).map (fun d => d.parameters.length) = some 3 := ⟨by decide, by decide, by decide +kernel⟩
theorem hd_X7_cell : yX7_cell.cls ≠ "java/lang/invoke/MethodHandle" ∧ yX7_cell.cls ≠ "java/lang/invoke/VarHandle" ∧ (parseMethodDescriptor yX7_cell.desc).map (fun d => d.parameters.length) = some 3 := ⟨by decide, by decide, by decide +kernel⟩
theorem hd_X7_copy : yX7_copy.cls ≠ "java/lang/invoke/MethodHandle" ∧ yX7_copy.cls ≠ "java/lang/invoke/VarHandle" ∧ (parseMethodDescriptor yX7_copy.desc).map (fun d => d.parameters.length) = some 5 := ⟨by decide, by decide, by decide +kernel⟩
theorem hd_X7_pupils : yX7_pupils.cls ≠ "java/lang/invoke/MethodHandle" ∧ yX7_pupils.cls ≠ "java/lang/invoke/VarHandle" ∧ (parseMethodDescriptor yX7_pupils.desc).map (fun d => d.parameters.length) = some 4 := ⟨by decide, by decide, by decide +kernel⟩
theorem hd_X7_taken : yX7_taken.cls ≠ "java/lang/invoke/MethodHandle" ∧ yX7_taken.cls ≠ "java/lang/invoke/VarHandle" ∧ (parseMethodDescriptor yX7_taken.desc).map (fun d => d.parameters.length) = some 2 := ⟨by decide, by decide, by decide +kernel⟩
