/-! what methods do, as functions: by program (wip/tools/gw6) -/
def D_X3_isStill_D (a : Int) (h : zM) : Int :=
  if (h 0 ((60 + a).toNat)) < 0 then
    0
  else
    if (h 0 185) ≤ (h 0 ((60 + a).toNat)) then
      0
    else
      if (h 0 ((60 + (h 0 ((60 + a).toNat))).toNat)) = a then
        if (h 0 ((70 + a).toNat)) = 1 then
          if (h 0 ((70 + (h 0 ((60 + a).toNat))).toNat)) = 1 then
            1
          else
            0
        else
          0
      else
        0

def DL_X3_mate_D_2 (a : Int) (h : zM) (KD9 : Int → Int) : Nat → Int → Int
  | 0, x2 => KD9 x2
  | k8 + 1, x2 =>
    if (h 0 185) ≤ x2 then
      KD9 x2
    else
      if x2 = a then
        DL_X3_mate_D_2 a h KD9 k8 (x2 + 1)
      else
        if (h 0 ((70 + x2).toNat)) = 1 then
          if (h 0 ((0 + x2).toNat)) = (h 0 ((0 + a).toNat)) then
            x2
          else
            DL_X3_mate_D_2 a h KD9 k8 (x2 + 1)
        else
          DL_X3_mate_D_2 a h KD9 k8 (x2 + 1)

def D_X3_mate_D (a : Int) (h : zM) : Int :=
  DL_X3_mate_D_2 a h (fun x2_9 =>
      a
    ) ((10 - (0 : Int)).toNat + 1) 0

def DL_X3_living_D_4 (h : zM) (KD9 : Int → Int → Int) : Nat → Int → Int → Int
  | 0, x1, x2 => KD9 x1 x2
  | k8 + 1, x1, x2 =>
    if (h 0 185) ≤ x2 then
      KD9 x1 x2
    else
      DL_X3_living_D_4 h KD9 k8 (x1 + (h 0 ((70 + x2).toNat))) (x2 + 1)

def D_X3_living_D (h : zM) : Int :=
  DL_X3_living_D_4 h (fun x1_4 x2_4 =>
      x1_4
    ) ((10 - (0 : Int)).toNat + 1) 0 0

def D_X6_seenFrom_D (a : Int) (h : zM) : Int :=
  if a < 0 then
    (-1)
  else
    if (h 6 3) ≤ a then
      (-1)
    else
      (h 7 a.toNat)

def D_X3_starve_D (a : Int) (h : zM) : zM :=
  zlt (zm_up h 0 ((20 + a).toNat) 0) fun h1 =>
  zlt (zm_up h1 0 ((70 + a).toNat) 0) fun h4 =>
  zlt (zm_up h4 1 5 (zw ((h4 1 5) + 1))) fun h10 =>
  if (h10 1 7) = (-1) then
    zlt (zm_up h10 1 7 a) fun h15 =>
    h15
  else
    h10

def D_X3_strike_D (a : Int) (h : zM) : zM :=
  if (h 0 ((40 + a).toNat)) ≤ 0 then
    zlt (zm_up h 0 ((80 + a).toNat) (zw ((zw ((h 0 ((80 + a).toNat)) + (h 2 a.toNat))) - (0 * (h 0 ((40 + a).toNat)))))) fun h8 =>
    h8
  else
    zlt (zm_up h 0 ((80 + a).toNat) (zw ((zw ((h 0 ((80 + a).toNat)) + (h 2 a.toNat))) - ((Int.tdiv (zw ((h 0 ((80 + a).toNat)) + (h 2 a.toNat))) (h 0 ((40 + a).toNat))) * (h 0 ((40 + a).toNat)))))) fun h15 =>
    if (Int.tdiv (zw ((h 0 ((80 + a).toNat)) + (h 2 a.toNat))) (h 0 ((40 + a).toNat))) ≤ 0 then
      h15
    else
      zlt (zm_up h15 0 ((90 + a).toNat) (zw ((h15 0 ((90 + a).toNat)) + (Int.tdiv (zw ((h 0 ((80 + a).toNat)) + (h 2 a.toNat))) (h 0 ((40 + a).toNat)))))) fun h22 =>
      zlt (zm_up h22 0 ((120 + a).toNat) (zw ((h22 0 184) + 1))) fun h28 =>
      zlt (zm_up h28 1 4 (zw ((h28 1 4) + (Int.tdiv (zw ((h 0 ((80 + a).toNat)) + (h 2 a.toNat))) (h 0 ((40 + a).toNat)))))) fun h34 =>
      h34

def D_X3_walk_D (a : Int) (h : zM) : zM :=
  if (h 0 ((178 + a).toNat)) = (-1) then
    if (h 9 a.toNat) ≤ 0 then
      h
    else
      zlt (zm_up h 0 ((172 + a).toNat) (zw (h 8 (((a * 8) + (Int.tmod (h 0 184) (h 9 a.toNat))).toNat)))) fun h10 =>
      h10
  else
    zlt (zm_up h 0 ((172 + a).toNat) (zw (h 0 ((178 + a).toNat)))) fun h15 =>
    h15

def DL_X3_digest_D_22 (KD9 : Int → zM → zM) : Nat → Int → zM → zM
  | 0, x2, h => KD9 x2 h
  | k8 + 1, x2, h =>
    if (h 0 185) ≤ x2 then
      KD9 x2 h
    else
      if (h 0 ((70 + x2).toNat)) = 1 then
        zlt (zm_up h 1 3 (zw ((h 1 3) + (h 2 x2.toNat)))) fun h9 =>
        zlt (zm_up h9 0 ((130 + x2).toNat) (zw ((h9 0 ((130 + x2).toNat)) + 1))) fun h15 =>
        zlt (zm_up h15 0 ((20 + x2).toNat) (zw ((h15 0 ((20 + x2).toNat)) + ((h15 2 x2.toNat) - (h15 0 ((10 + x2).toNat)))))) fun h23 =>
        if (h23 0 ((20 + x2).toNat)) ≤ 0 then
          zlt (D_X3_starve_D x2 h23) fun h28 =>
          DL_X3_digest_D_22 KD9 k8 (x2 + 1) h28
        else
          zlt (D_X3_strike_D x2 h23) fun h31 =>
          zlt (zm_up h31 0 ((100 + x2).toNat) (zw ((h31 0 ((100 + x2).toNat)) + (Int.tdiv (h31 0 ((20 + x2).toNat)) 10)))) fun h40 =>
          DL_X3_digest_D_22 KD9 k8 (x2 + 1) h40
      else
        DL_X3_digest_D_22 KD9 k8 (x2 + 1) h

def D_X3_digest_D (h : zM) : zM :=
  zlt (zm_up h 1 3 0) fun h43 =>
  zlt (zm_up h43 1 4 0) fun h46 =>
  zlt (zm_up h46 1 5 0) fun h49 =>
  zlt (zm_up h49 1 7 (-1)) fun h52 =>
  DL_X3_digest_D_22 (fun x2_55 h_55 =>
      h_55
    ) ((10 - (0 : Int)).toNat + 1) 0 h52

def DL_X3_bear_D_152 (a : Int) (x3 : Int) (h : zM) : zM :=
  zlt (zm_up h 0 ((140 + x3).toNat) a) fun h1 =>
  zlt (zm_up h1 0 ((150 + x3).toNat) 0) fun h5 =>
  zlt (zm_up h5 0 185 ((h5 0 185) + 1)) fun h10 =>
  zlt (zm_up h10 1 6 (zw ((h10 1 6) + 1))) fun h17 =>
  h17

def DL_X3_bear_D_124 (a : Int) (x3 : Int) (h : zM) : zM :=
  zlt (zm_up h 0 ((110 + x3).toNat) 0) fun h21 =>
  zlt (zm_up h21 0 ((120 + x3).toNat) (zw ((h21 0 184) + 1))) fun h28 =>
  zlt (zm_up h28 0 ((130 + x3).toNat) 0) fun h32 =>
  DL_X3_bear_D_152 a x3 h32

def DL_X3_bear_D_96 (a : Int) (x3 : Int) (h : zM) : zM :=
  zlt (zm_up h 0 ((70 + x3).toNat) 1) fun h37 =>
  zlt (zm_up h37 0 ((80 + x3).toNat) 0) fun h41 =>
  zlt (zm_up h41 0 ((90 + x3).toNat) 0) fun h45 =>
  zlt (zm_up h45 0 ((100 + x3).toNat) 0) fun h49 =>
  DL_X3_bear_D_124 a x3 h49

def DL_X3_bear_D_52 (a : Int) (x3 : Int) (h : zM) : zM :=
  zlt (zm_up h 0 ((40 + x3).toNat) (zw (h 0 ((40 + a).toNat)))) fun h57 =>
  zlt (D_X3_mate_D a h57) fun r62 =>
  zlt (zm_up h57 0 ((50 + x3).toNat) (zw (Int.tmod (zw ((h57 0 ((50 + a).toNat)) + (h57 0 ((50 + r62).toNat)))) 4))) fun h69 =>
  zlt (zm_up h69 0 ((60 + x3).toNat) (-1)) fun h73 =>
  DL_X3_bear_D_96 a x3 h73

def D_X3_bear_D (a : Int) (h : zM) : zM :=
  zlt (zm_up h 0 ((0 + (h 0 185)).toNat) (zw (h 0 ((0 + a).toNat)))) fun h82 =>
  zlt (zm_up h82 0 ((10 + (h 0 185)).toNat) (zw (h82 0 ((10 + a).toNat)))) fun h89 =>
  zlt (zm_up h89 0 ((20 + (h 0 185)).toNat) (zw (h89 0 ((20 + a).toNat)))) fun h96 =>
  zlt (zm_up h96 0 ((30 + (h 0 185)).toNat) (zw (h96 0 ((30 + a).toNat)))) fun h103 =>
  DL_X3_bear_D_52 a (h 0 185) h103

def DL_X3_goWild_D_18 (x2 : Int) (KD9 : Int → zM → zM) : Nat → Int → zM → zM
  | 0, x3, h => KD9 x3 h
  | k8 + 1, x3, h =>
    if x2 ≤ x3 then
      KD9 x3 h
    else
      if (h 0 ((70 + x3).toNat)) = 1 then
        if (h 0 ((20 + x3).toNat)) ≤ (h 0 ((30 + x3).toNat)) then
          DL_X3_goWild_D_18 x2 KD9 k8 (x3 + 1) h
        else
          zlt (zm_up h 0 ((20 + x3).toNat) (zw (Int.tdiv (h 0 ((20 + x3).toNat)) 2))) fun h11 =>
          if (h11 1 8) = (-1) then
            zlt (zm_up h11 1 8 x3) fun h16 =>
            if 10 ≤ (h16 0 185) then
              DL_X3_goWild_D_18 x2 KD9 k8 (x3 + 1) h16
            else
              zlt (D_X3_bear_D x3 h16) fun h21 =>
              DL_X3_goWild_D_18 x2 KD9 k8 (x3 + 1) h21
          else
            if 10 ≤ (h11 0 185) then
              DL_X3_goWild_D_18 x2 KD9 k8 (x3 + 1) h11
            else
              zlt (D_X3_bear_D x3 h11) fun h26 =>
              DL_X3_goWild_D_18 x2 KD9 k8 (x3 + 1) h26
      else
        DL_X3_goWild_D_18 x2 KD9 k8 (x3 + 1) h

def D_X3_goWild_D (h : zM) : zM :=
  zlt (zm_up h 1 6 0) fun h29 =>
  zlt (zm_up h29 1 8 (-1)) fun h32 =>
  DL_X3_goWild_D_18 (h32 0 185) (fun x3_36 h_36 =>
      h_36
    ) ((10 - (0 : Int)).toNat + 1) 0 h32

def DL_X3_prepare_D_18 (KD9 : Int → zM → zM) : Nat → Int → zM → zM
  | 0, x2, h => KD9 x2 h
  | k8 + 1, x2, h =>
    if (h 0 185) ≤ x2 then
      KD9 x2 h
    else
      if (h 0 ((70 + x2).toNat)) = 1 then
        zlt (D_X3_isStill_D x2 h) fun r5 =>
        if r5 = 0 then
          zlt (zm_up h 3 x2.toNat 1) fun h7 =>
          DL_X3_prepare_D_18 KD9 k8 (x2 + 1) h7
        else
          zlt (zm_up h 3 x2.toNat 0) fun h10 =>
          DL_X3_prepare_D_18 KD9 k8 (x2 + 1) h10
      else
        zlt (zm_up h 3 x2.toNat 0) fun h13 =>
        DL_X3_prepare_D_18 KD9 k8 (x2 + 1) h13

def D_X3_prepare_D (h : zM) : zM :=
  zlt (zfl h 2 10 0) fun h16 =>
  zlt (h16) fun h19 =>
  DL_X3_prepare_D_18 (fun x2_22 h_22 =>
      h_22
    ) ((10 - (0 : Int)).toNat + 1) 0 h19

def DL_X3_choice_D_27 (V9 : Int → Int → Int → Int → Int → Int → Int) (p : Int) (x3 : Int) (x4 : Int) (KD9 : Int → Int → Int → zM → Int × zM) : Nat → Int → Int → Int → zM → Int × zM
  | 0, x5, x6, x7, h => KD9 x5 x6 x7 h
  | k8 + 1, x5, x6, x7, h =>
    if (h 0 185) ≤ x7 then
      KD9 x5 x6 x7 h
    else
      if (h 3 x7.toNat) = 0 then
        DL_X3_choice_D_27 V9 p x3 x4 KD9 k8 x5 x6 (x7 + 1) h
      else
        if (h 0 ((0 + x7).toNat)) = x3 then
          if h 1 1 = 0 then
            if x5 = (-1) then
              DL_X3_choice_D_27 V9 p x3 x4 KD9 k8 x7 (zw ((zw (100 - (h 0 ((20 + x7).toNat)))) + (10 * (h 0 ((150 + x7).toNat))))) (x7 + 1) h
            else
              if (zw ((zw (100 - (h 0 ((20 + x7).toNat)))) + (10 * (h 0 ((150 + x7).toNat))))) ≤ x6 then
                DL_X3_choice_D_27 V9 p x3 x4 KD9 k8 x5 x6 (x7 + 1) h
              else
                DL_X3_choice_D_27 V9 p x3 x4 KD9 k8 x7 (zw ((zw (100 - (h 0 ((20 + x7).toNat)))) + (10 * (h 0 ((150 + x7).toNat))))) (x7 + 1) h
          else
            if (h 0 ((0 + x7).toNat)) = x3 then
              zlt (V9 (h 0 ((20 + x7).toNat)) (h 0 ((10 + x7).toNat)) (zw ((h 0 184) - (h 0 ((120 + x7).toNat)))) (h 0 ((50 + x7).toNat)) 0 p) fun r16 =>
              zlt (h) fun h16 =>
              if x5 = (-1) then
                DL_X3_choice_D_27 V9 p x3 x4 KD9 k8 x7 (zw ((zw r16) + (10 * (h16 0 ((150 + x7).toNat))))) (x7 + 1) h16
              else
                if (zw ((zw r16) + (10 * (h16 0 ((150 + x7).toNat))))) ≤ x6 then
                  DL_X3_choice_D_27 V9 p x3 x4 KD9 k8 x5 x6 (x7 + 1) h16
                else
                  DL_X3_choice_D_27 V9 p x3 x4 KD9 k8 x7 (zw ((zw r16) + (10 * (h16 0 ((150 + x7).toNat))))) (x7 + 1) h16
            else
              zlt (V9 (h 0 ((20 + x7).toNat)) (h 0 ((10 + x7).toNat)) (zw ((h 0 184) - (h 0 ((120 + x7).toNat)))) (h 0 ((50 + x7).toNat)) 1 p) fun r24 =>
              zlt (h) fun h24 =>
              if x5 = (-1) then
                DL_X3_choice_D_27 V9 p x3 x4 KD9 k8 x7 (zw ((zw r24) + (10 * (h24 0 ((150 + x7).toNat))))) (x7 + 1) h24
              else
                if (zw ((zw r24) + (10 * (h24 0 ((150 + x7).toNat))))) ≤ x6 then
                  DL_X3_choice_D_27 V9 p x3 x4 KD9 k8 x5 x6 (x7 + 1) h24
                else
                  DL_X3_choice_D_27 V9 p x3 x4 KD9 k8 x7 (zw ((zw r24) + (10 * (h24 0 ((150 + x7).toNat))))) (x7 + 1) h24
        else
          if (h 0 ((0 + x7).toNat)) = x4 then
            if h 1 1 = 0 then
              if x5 = (-1) then
                DL_X3_choice_D_27 V9 p x3 x4 KD9 k8 x7 (zw ((zw (100 - (h 0 ((20 + x7).toNat)))) + (10 * (h 0 ((150 + x7).toNat))))) (x7 + 1) h
              else
                if (zw ((zw (100 - (h 0 ((20 + x7).toNat)))) + (10 * (h 0 ((150 + x7).toNat))))) ≤ x6 then
                  DL_X3_choice_D_27 V9 p x3 x4 KD9 k8 x5 x6 (x7 + 1) h
                else
                  DL_X3_choice_D_27 V9 p x3 x4 KD9 k8 x7 (zw ((zw (100 - (h 0 ((20 + x7).toNat)))) + (10 * (h 0 ((150 + x7).toNat))))) (x7 + 1) h
            else
              if (h 0 ((0 + x7).toNat)) = x3 then
                zlt (V9 (h 0 ((20 + x7).toNat)) (h 0 ((10 + x7).toNat)) (zw ((h 0 184) - (h 0 ((120 + x7).toNat)))) (h 0 ((50 + x7).toNat)) 0 p) fun r42 =>
                zlt (h) fun h42 =>
                if x5 = (-1) then
                  DL_X3_choice_D_27 V9 p x3 x4 KD9 k8 x7 (zw ((zw r42) + (10 * (h42 0 ((150 + x7).toNat))))) (x7 + 1) h42
                else
                  if (zw ((zw r42) + (10 * (h42 0 ((150 + x7).toNat))))) ≤ x6 then
                    DL_X3_choice_D_27 V9 p x3 x4 KD9 k8 x5 x6 (x7 + 1) h42
                  else
                    DL_X3_choice_D_27 V9 p x3 x4 KD9 k8 x7 (zw ((zw r42) + (10 * (h42 0 ((150 + x7).toNat))))) (x7 + 1) h42
              else
                zlt (V9 (h 0 ((20 + x7).toNat)) (h 0 ((10 + x7).toNat)) (zw ((h 0 184) - (h 0 ((120 + x7).toNat)))) (h 0 ((50 + x7).toNat)) 1 p) fun r50 =>
                zlt (h) fun h50 =>
                if x5 = (-1) then
                  DL_X3_choice_D_27 V9 p x3 x4 KD9 k8 x7 (zw ((zw r50) + (10 * (h50 0 ((150 + x7).toNat))))) (x7 + 1) h50
                else
                  if (zw ((zw r50) + (10 * (h50 0 ((150 + x7).toNat))))) ≤ x6 then
                    DL_X3_choice_D_27 V9 p x3 x4 KD9 k8 x5 x6 (x7 + 1) h50
                  else
                    DL_X3_choice_D_27 V9 p x3 x4 KD9 k8 x7 (zw ((zw r50) + (10 * (h50 0 ((150 + x7).toNat))))) (x7 + 1) h50
          else
            DL_X3_choice_D_27 V9 p x3 x4 KD9 k8 x5 x6 (x7 + 1) h

def D_X3_choice_D (V9 : Int → Int → Int → Int → Int → Int → Int) (p : Int) (h : zM) : Int × zM :=
  zlt (D_X6_seenFrom_D (h 0 ((172 + p).toNat)) h) fun r59 =>
  DL_X3_choice_D_27 V9 p (h 0 ((172 + p).toNat)) r59 (fun x5_60 x6_60 x7_60 h_60 =>
      (x5_60, h_60)
    ) ((10 - (0 : Int)).toNat + 1) (-1) 0 0 h

def D_X3_look_D (V9 : Int → Int → Int → Int → Int → Int → Int) (p : Int) (h : zM) : Int × zM :=
  zlt (D_X3_prepare_D h) fun h1 =>
  zlt (D_X3_walk_D p h1) fun h4 =>
  if (h4 0 ((166 + p).toNat)) = 1 then
    ((-1), h4)
  else
    zl2 (D_X3_choice_D V9 p h4) fun r9 h9 =>
    (r9, h9)

def DL_X3_pass_D_7 (V9 : Int → Int → Int → Int → Int → Int → Int) (KD9 : Int → zM → zM) : Nat → Int → zM → zM
  | 0, x2, h => KD9 x2 h
  | k8 + 1, x2, h =>
    if (h 6 4) ≤ x2 then
      KD9 x2 h
    else
      zlt (D_X3_walk_D x2 h) fun h3 =>
      if (h3 0 ((166 + x2).toNat)) = 1 then
        DL_X3_pass_D_7 V9 KD9 k8 (x2 + 1) h3
      else
        zl2 (D_X3_choice_D V9 x2 h3) fun r9 h9 =>
        if r9 = (-1) then
          DL_X3_pass_D_7 V9 KD9 k8 (x2 + 1) h9
        else
          if (h9 0 ((110 + r9).toNat)) = 0 then
            zlt (zm_up h9 2 r9.toNat (zw ((h9 2 r9.toNat) + (h9 0 ((160 + x2).toNat))))) fun h19 =>
            DL_X3_pass_D_7 V9 KD9 k8 (x2 + 1) h19
          else
            DL_X3_pass_D_7 V9 KD9 k8 (x2 + 1) h9

def D_X3_pass_D (V9 : Int → Int → Int → Int → Int → Int → Int) (h : zM) : zM :=
  zlt (D_X3_prepare_D h) fun h22 =>
  DL_X3_pass_D_7 V9 (fun x2_25 h_25 =>
      zlt (D_X3_digest_D h_25) fun h26 =>
      zlt (D_X3_goWild_D h26) fun h29 =>
      zlt (zm_up h29 0 184 ((h29 0 184) + 1)) fun h33 =>
      zlt (zm_up h33 0 186 (zw ((h33 0 186) + (h33 1 3)))) fun h40 =>
      zlt (zm_up h40 0 187 (zw ((h40 0 187) + (h40 1 4)))) fun h47 =>
      h47
    ) ((6 - (0 : Int)).toNat + 1) 0 h22

def D_X12_lives_D (a : Int) (h : zM) : Int :=
  if (h 0 (((15 * a) + 7).toNat)) = 1 then
    1
  else
    0

def DL_X12_living_D_4 (h : zM) (KD9 : Int → Int → Int) : Nat → Int → Int → Int
  | 0, x1, x2 => KD9 x1 x2
  | k8 + 1, x1, x2 =>
    if (h 0 174) ≤ x2 then
      KD9 x1 x2
    else
      DL_X12_living_D_4 h KD9 k8 (zw (x1 + (h 0 (((15 * x2) + 7).toNat)))) (x2 + 1)

def D_X12_living_D (h : zM) : Int :=
  DL_X12_living_D_4 h (fun x1_6 x2_6 =>
      x1_6
    ) ((10 - (0 : Int)).toNat + 1) 0 0

def D_X12_isStill_D (a : Int) (h : zM) : Int :=
  zlt (D_X12_lives_D a h) fun r2 =>
  if r2 = 0 then
    0
  else
    if (h 0 (((15 * a) + 6).toNat)) = (-1) then
      0
    else
      zlt (D_X12_lives_D (h 0 (((15 * a) + 6).toNat)) h) fun r5 =>
      if r5 = 0 then
        0
      else
        if (h 0 (((15 * (h 0 (((15 * a) + 6).toNat))) + 6).toNat)) = a then
          1
        else
          0

def D_X12_canSee_D (a : Int) (room : Int) (h : zM) : Int :=
  zlt (D_X12_lives_D a h) fun r2 =>
  if r2 = 0 then
    0
  else
    if (h 0 ((15 * a).toNat)) = room then
      zlt (D_X12_isStill_D a h) fun r5 =>
      if r5 = 0 then
        1
      else
        0
    else
      if (h 0 ((15 * a).toNat)) = (h 6 room.toNat) then
        zlt (D_X12_isStill_D a h) fun r9 =>
        if r9 = 0 then
          1
        else
          0
      else
        0

def DL_X12_looksAt_D_9 (V9 : Int → Int → Int → Int → Int → Int → Int) (p : Int) (room : Int) (KD9 : Int → Int → Int → zM → Int × zM) : Nat → Int → Int → Int → zM → Int × zM
  | 0, x4, x5, x6, h => KD9 x4 x5 x6 h
  | k8 + 1, x4, x5, x6, h =>
    if (h 0 174) ≤ x6 then
      KD9 x4 x5 x6 h
    else
      zlt (D_X12_canSee_D x6 room h) fun r3 =>
      if r3 = 0 then
        DL_X12_looksAt_D_9 V9 p room KD9 k8 x4 x5 (x6 + 1) h
      else
        zlt (zwt V9 (h 1 33) (h 0 ((15 * x6 + 2).toNat)) (h 0 ((15 * x6 + 1).toNat)) (h 0 ((15 * x6 + 12).toNat)) (h 0 ((15 * x6 + 5).toNat)) (if h 0 ((15 * x6).toNat) = room then 0 else 1) p (h 3 (x6).toNat)) fun r6 =>
        zlt (h) fun h6 =>
        if x4 = (-1) then
          DL_X12_looksAt_D_9 V9 p room KD9 k8 x6 r6 (x6 + 1) h6
        else
          if x5 < r6 then
            DL_X12_looksAt_D_9 V9 p room KD9 k8 x6 r6 (x6 + 1) h6
          else
            DL_X12_looksAt_D_9 V9 p room KD9 k8 x4 x5 (x6 + 1) h6

def D_X12_looksAt_D (V9 : Int → Int → Int → Int → Int → Int → Int) (p : Int) (room : Int) (h : zM) : Int × zM :=
  DL_X12_looksAt_D_9 V9 p room (fun x4_11 x5_11 x6_11 h_11 =>
      (x4_11, h_11)
    ) ((10 - (0 : Int)).toNat + 1) (-1) 0 0 h

def D_X12_goesTo_D (p : Int) (h : zM) : Int :=
  if (h 0 (((150 + (4 * p)) + 3).toNat)) = (-1) then
    if (h 8 p.toNat) ≤ 0 then
      (h 0 (((150 + (4 * p)) + 2).toNat))
    else
      (h 7 (((8 * p) + (Int.tmod (h 0 175) (h 8 p.toNat))).toNat))
  else
    (h 0 (((150 + (4 * p)) + 3).toNat))

def DL_X12_eats_D_2 (V9 : Int → Int → Int → Int → Int → Int → Int) (KD9 : Int → zM → zM) : Nat → Int → zM → zM
  | 0, x2, h => KD9 x2 h
  | k8 + 1, x2, h =>
    if 10 ≤ x2 then
      KD9 x2 h
    else
      zlt (zm_up h 2 x2.toNat 0) fun h2 =>
      DL_X12_eats_D_2 V9 KD9 k8 (x2 + 1) h2

def DL_X12_eats_D_23 (V9 : Int → Int → Int → Int → Int → Int → Int) (KD9 : Int → zM → zM) : Nat → Int → zM → zM
  | 0, x2, h => KD9 x2 h
  | k8 + 1, x2, h =>
    if (h 1 27) ≤ x2 then
      KD9 x2 h
    else
      zlt (D_X12_goesTo_D x2 h) fun r8 =>
      zlt (zm_up h 0 (((150 + (4 * x2)) + 2).toNat) r8) fun h9 =>
      if (h9 0 (((150 + (4 * x2)) + 1).toNat)) = 1 then
        DL_X12_eats_D_23 V9 KD9 k8 (x2 + 1) h9
      else
        zl2 (D_X12_looksAt_D V9 x2 (h9 0 (((150 + (4 * x2)) + 2).toNat)) h9) fun r17 h17 =>
        if r17 = (-1) then
          DL_X12_eats_D_23 V9 KD9 k8 (x2 + 1) h17
        else
          if (h17 0 (((15 * r17) + 11).toNat)) = 0 then
            zlt (zm_up h17 2 r17.toNat (zw ((h17 2 r17.toNat) + (h17 0 ((150 + (4 * x2)).toNat))))) fun h28 =>
            DL_X12_eats_D_23 V9 KD9 k8 (x2 + 1) h28
          else
            DL_X12_eats_D_23 V9 KD9 k8 (x2 + 1) h17

def D_X12_eats_D (V9 : Int → Int → Int → Int → Int → Int → Int) (h : zM) : zM :=
  DL_X12_eats_D_2 V9 (fun x2_32 h_32 =>
      DL_X12_eats_D_23 V9 (fun x2_33 h_33 =>
          h_33
        ) ((6 - (0 : Int)).toNat + 1) 0 h_32
    ) ((10 - (0 : Int)).toNat + 1) 0 h

def D_X12_feeds_D (a : Int) (h : zM) : zM :=
  zlt (zm_up h 0 (((15 * a) + 13).toNat) (zw ((h 0 (((15 * a) + 13).toNat)) + 1))) fun h11 =>
  zlt (zm_up h11 0 (((15 * a) + 2).toNat) (zw ((h11 0 (((15 * a) + 2).toNat)) + ((h11 2 a.toNat) - (h11 0 (((15 * a) + 1).toNat)))))) fun h24 =>
  zlt (zm_up h24 1 37 (zw ((h24 1 37) + (h24 2 a.toNat)))) fun h35 =>
  if 0 < (h35 0 (((15 * a) + 2).toNat)) then
    zlt (zm_up h35 0 (((15 * a) + 8).toNat) (zw ((h35 0 (((15 * a) + 8).toNat)) + (h35 2 a.toNat)))) fun h54 =>
    zlt (zm_up h54 0 (((15 * a) + 8).toNat) (zw (Int.tmod (h54 0 (((15 * a) + 8).toNat)) (h54 0 (((15 * a) + 4).toNat))))) fun h68 =>
    zlt (zm_up h68 0 (((15 * a) + 9).toNat) (zw ((h68 0 (((15 * a) + 9).toNat)) + (Int.tdiv (h54 0 (((15 * a) + 8).toNat)) (h54 0 (((15 * a) + 4).toNat)))))) fun h79 =>
    zlt (zm_up h79 1 38 (zw ((h79 1 38) + (Int.tdiv (h54 0 (((15 * a) + 8).toNat)) (h54 0 (((15 * a) + 4).toNat)))))) fun h90 =>
    if (Int.tdiv (h54 0 (((15 * a) + 8).toNat)) (h54 0 (((15 * a) + 4).toNat))) ≤ 0 then
      zlt (zm_up h90 0 (((15 * a) + 12).toNat) (zw ((h90 0 (((15 * a) + 12).toNat)) + 1))) fun h108 =>
      zlt (zm_up h108 0 (((15 * a) + 10).toNat) (zw ((h108 0 (((15 * a) + 10).toNat)) + (Int.tdiv (h108 0 (((15 * a) + 2).toNat)) 10)))) fun h121 =>
      h121
    else
      zlt (zm_up h90 0 (((15 * a) + 12).toNat) 0) fun h135 =>
      zlt (zm_up h135 0 (((15 * a) + 10).toNat) (zw ((h135 0 (((15 * a) + 10).toNat)) + (Int.tdiv (h135 0 (((15 * a) + 2).toNat)) 10)))) fun h148 =>
      h148
  else
    zlt (zm_up h35 0 (((15 * a) + 2).toNat) 0) fun h162 =>
    zlt (zm_up h162 0 (((15 * a) + 7).toNat) 0) fun h170 =>
    zlt (zm_up h170 1 39 (zw ((h170 1 39) + 1))) fun h180 =>
    if (h180 1 41) = (-1) then
      zlt (zm_up h180 1 41 a) fun h196 =>
      h196
    else
      h180

def DL_X12_isBorn_D_18 (a : Int) (h : zM) (KD9 : Int → Int → zM) : Nat → Int → Int → zM
  | 0, x5, x6 => KD9 x5 x6
  | k8 + 1, x5, x6 =>
    if (h 0 174) ≤ x6 then
      KD9 x5 x6
    else
      if x5 = (-1) then
        if x6 = a then
          DL_X12_isBorn_D_18 a h KD9 k8 x5 (x6 + 1)
        else
          zlt (D_X12_lives_D x6 h) fun r8 =>
          if r8 = 0 then
            DL_X12_isBorn_D_18 a h KD9 k8 x5 (x6 + 1)
          else
            if (h 0 ((15 * x6).toNat)) = (h 0 ((15 * a).toNat)) then
              DL_X12_isBorn_D_18 a h KD9 k8 x6 (x6 + 1)
            else
              DL_X12_isBorn_D_18 a h KD9 k8 x5 (x6 + 1)
      else
        KD9 x5 x6

def DL_X12_isBorn_D_105 (a : Int) (x3 : Int) (x6 : Int) (KD9 : Int → zM → zM) : Nat → Int → zM → zM
  | 0, x7, h => KD9 x7 h
  | k8 + 1, x7, h =>
    if 15 ≤ x7 then
      KD9 x7 h
    else
      if 5 ≤ x7 then
        zlt (zm_up h 0 (((15 * x3) + x7).toNat) 0) fun h19 =>
        DL_X12_isBorn_D_105 a x3 x6 KD9 k8 (x7 + 1) h19
      else
        zlt (zm_up h 0 (((15 * x3) + x7).toNat) (h 0 (((15 * a) + x7).toNat))) fun h22 =>
        DL_X12_isBorn_D_105 a x3 x6 KD9 k8 (x7 + 1) h22

def D_X12_isBorn_D (a : Int) (h : zM) : zM :=
  DL_X12_isBorn_D_18 a h (fun x5_30 x6_30 =>
      if x5_30 = (-1) then
        DL_X12_isBorn_D_105 a (h 0 174) (zw ((h 0 (((15 * a) + 5).toNat)) + (h 0 (((15 * a) + 5).toNat)))) (fun x7_35 h_35 =>
            zlt (zm_up h_35 0 (((15 * (h 0 174)) + 5).toNat) (Int.tmod (zw ((h 0 (((15 * a) + 5).toNat)) + (h 0 (((15 * a) + 5).toNat)))) 4)) fun h42 =>
            zlt (zm_up h42 0 (((15 * (h 0 174)) + 6).toNat) (-1)) fun h48 =>
            zlt (zm_up h48 0 (((15 * (h 0 174)) + 7).toNat) 1) fun h54 =>
            zlt (zm_up h54 0 (((15 * (h 0 174)) + 14).toNat) a) fun h60 =>
            zlt (zm_up h60 0 174 ((h60 0 174) + 1)) fun h67 =>
            zlt (zm_up h67 1 40 (zw ((h67 1 40) + 1))) fun h75 =>
            h75
          ) ((15 - (0 : Int)).toNat + 1) 0 h
      else
        DL_X12_isBorn_D_105 a (h 0 174) (zw ((h 0 (((15 * a) + 5).toNat)) + (h 0 (((15 * x5_30) + 5).toNat)))) (fun x7_84 h_84 =>
            zlt (zm_up h_84 0 (((15 * (h 0 174)) + 5).toNat) (Int.tmod (zw ((h 0 (((15 * a) + 5).toNat)) + (h 0 (((15 * x5_30) + 5).toNat)))) 4)) fun h91 =>
            zlt (zm_up h91 0 (((15 * (h 0 174)) + 6).toNat) (-1)) fun h97 =>
            zlt (zm_up h97 0 (((15 * (h 0 174)) + 7).toNat) 1) fun h103 =>
            zlt (zm_up h103 0 (((15 * (h 0 174)) + 14).toNat) a) fun h109 =>
            zlt (zm_up h109 0 174 ((h109 0 174) + 1)) fun h116 =>
            zlt (zm_up h116 1 40 (zw ((h116 1 40) + 1))) fun h124 =>
            h124
          ) ((15 - (0 : Int)).toNat + 1) 0 h
    ) ((10 - (0 : Int)).toNat + 1) (-1) 0

def DL_X12_goHour_D_43 (V9 : Int → Int → Int → Int → Int → Int → Int) (x2 : Int) (KD9 : Int → zM → zM) : Nat → Int → zM → zM
  | 0, x3, h => KD9 x3 h
  | k8 + 1, x3, h =>
    if x2 ≤ x3 then
      KD9 x3 h
    else
      zlt (D_X12_lives_D x3 h) fun r3 =>
      if r3 = 0 then
        DL_X12_goHour_D_43 V9 x2 KD9 k8 (x3 + 1) h
      else
        zlt (D_X12_feeds_D x3 h) fun h5 =>
        DL_X12_goHour_D_43 V9 x2 KD9 k8 (x3 + 1) h5

def DL_X12_goHour_D_74 (V9 : Int → Int → Int → Int → Int → Int → Int) (x2 : Int) (KD9 : Int → zM → zM) : Nat → Int → zM → zM
  | 0, x3, h => KD9 x3 h
  | k8 + 1, x3, h =>
    if x2 ≤ x3 then
      KD9 x3 h
    else
      zlt (D_X12_lives_D x3 h) fun r10 =>
      if r10 = 0 then
        DL_X12_goHour_D_74 V9 x2 KD9 k8 (x3 + 1) h
      else
        if (h 0 (((15 * x3) + 3).toNat)) < (h 0 (((15 * x3) + 2).toNat)) then
          if (h 1 42) = (-1) then
            zlt (zm_up h 1 42 x3) fun h17 =>
            zlt (zm_up h17 0 (((15 * x3) + 2).toNat) (zw (Int.tdiv (h17 0 (((15 * x3) + 2).toNat)) 2))) fun h28 =>
            if 10 ≤ (h28 0 174) then
              DL_X12_goHour_D_74 V9 x2 KD9 k8 (x3 + 1) h28
            else
              zlt (D_X12_isBorn_D x3 h28) fun h35 =>
              DL_X12_goHour_D_74 V9 x2 KD9 k8 (x3 + 1) h35
          else
            zlt (zm_up h 0 (((15 * x3) + 2).toNat) (zw (Int.tdiv (h 0 (((15 * x3) + 2).toNat)) 2))) fun h42 =>
            if 10 ≤ (h42 0 174) then
              DL_X12_goHour_D_74 V9 x2 KD9 k8 (x3 + 1) h42
            else
              zlt (D_X12_isBorn_D x3 h42) fun h50 =>
              DL_X12_goHour_D_74 V9 x2 KD9 k8 (x3 + 1) h50
        else
          DL_X12_goHour_D_74 V9 x2 KD9 k8 (x3 + 1) h

def D_X12_goHour_D (V9 : Int → Int → Int → Int → Int → Int → Int) (h : zM) : zM :=
  zlt (zm_up h 1 37 0) fun h54 =>
  zlt (zm_up h54 1 38 0) fun h58 =>
  zlt (zm_up h58 1 39 0) fun h62 =>
  zlt (zm_up h62 1 40 0) fun h66 =>
  zlt (zm_up h66 1 41 (-1)) fun h70 =>
  zlt (zm_up h70 1 42 (-1)) fun h74 =>
  zlt (D_X12_eats_D V9 h74) fun h79 =>
  DL_X12_goHour_D_43 V9 (h74 0 174) (fun x3_83 h_83 =>
      DL_X12_goHour_D_74 V9 (h74 0 174) (fun x3_85 h_85 =>
          zlt (zm_up h_85 0 175 ((h_85 0 175) + 1)) fun h89 =>
          zlt (zm_up h89 0 176 (zw ((h89 0 176) + (h89 1 37)))) fun h96 =>
          zlt (zm_up h96 0 177 (zw ((h96 0 177) + (h96 1 38)))) fun h103 =>
          h103
        ) ((10 - (0 : Int)).toNat + 1) 0 h_83
    ) ((10 - (0 : Int)).toNat + 1) 0 h79

