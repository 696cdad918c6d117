/-! what the readers of texts do, as functions: by program (wip/tools/gw6) -/
def DL_X9_worth_D_4 (KD9 : Int → Int → zM → Int × zM) : Nat → Int → Int → zM → Int × zM
  | 0, x1, x2, h => KD9 x1 x2 h
  | k8 + 1, x1, x2, h =>
    if (h 3 1001) ≤ x2 then
      KD9 x1 x2 h
    else
      if 1 < (zb_shr (h 3 x2.toNat) 14) then
        if (x1 - 1) < 0 then
          (0, h)
        else
          if (zb_shr (h 3 x2.toNat) 14) ≤ 4 then
            if (zb_shr (h 3 x2.toNat) 14) = 3 then
              ((zw (h 2 ((x1 - 1).toNat))), h)
            else
              if (zb_shr (h 3 x2.toNat) 14) = 2 then
                if (h 2 ((x1 - 1).toNat)) = 0 then
                  DL_X9_worth_D_4 KD9 k8 (x1 - 1) ((max x2 ((zb_and (h 3 x2.toNat) 16383) - 1)) + 1) h
                else
                  DL_X9_worth_D_4 KD9 k8 (x1 - 1) (x2 + 1) h
              else
                if (zb_shr (h 3 x2.toNat) 14) = 4 then
                  zlt (zm_up h 2 ((x1 - 1).toNat) (zw8 (1 - (h 2 ((x1 - 1).toNat))))) fun h18 =>
                  DL_X9_worth_D_4 KD9 k8 ((x1 - 1) + 1) (x2 + 1) h18
                else
                  if (zb_shr (h 3 x2.toNat) 14) = 5 then
                    zlt (zm_up h 2 (((x1 - 1) - 1).toNat) (zw8 (max (-1000000) (min 1000000 (zw8 ((h 2 (((x1 - 1) - 1).toNat)) + (h 2 ((x1 - 1).toNat)))))))) fun h24 =>
                    DL_X9_worth_D_4 KD9 k8 (x1 - 1) (x2 + 1) h24
                  else
                    if (zb_shr (h 3 x2.toNat) 14) = 6 then
                      zlt (zm_up h 2 (((x1 - 1) - 1).toNat) (zw8 (max (-1000000) (min 1000000 (zw8 ((h 2 (((x1 - 1) - 1).toNat)) - (h 2 ((x1 - 1).toNat)))))))) fun h29 =>
                      DL_X9_worth_D_4 KD9 k8 (x1 - 1) (x2 + 1) h29
                    else
                      if (zb_shr (h 3 x2.toNat) 14) = 7 then
                        zlt (zm_up h 2 (((x1 - 1) - 1).toNat) (zw8 (max (-1000000) (min 1000000 (zw8 ((h 2 (((x1 - 1) - 1).toNat)) * (h 2 ((x1 - 1).toNat)))))))) fun h34 =>
                        DL_X9_worth_D_4 KD9 k8 (x1 - 1) (x2 + 1) h34
                      else
                        if (zb_shr (h 3 x2.toNat) 14) = 8 then
                          if (h 2 ((x1 - 1).toNat)) = 0 then
                            zlt (zm_up h 2 (((x1 - 1) - 1).toNat) (zw8 (max (-1000000) (min 1000000 0)))) fun h39 =>
                            DL_X9_worth_D_4 KD9 k8 (x1 - 1) (x2 + 1) h39
                          else
                            zlt (zm_up h 2 (((x1 - 1) - 1).toNat) (zw8 (max (-1000000) (min 1000000 (zw8 (Int.tdiv (h 2 (((x1 - 1) - 1).toNat)) (h 2 ((x1 - 1).toNat)))))))) fun h44 =>
                            DL_X9_worth_D_4 KD9 k8 (x1 - 1) (x2 + 1) h44
                        else
                          if (zb_shr (h 3 x2.toNat) 14) = 9 then
                            if (h 2 (((x1 - 1) - 1).toNat)) = (h 2 ((x1 - 1).toNat)) then
                              zlt (zm_up h 2 (((x1 - 1) - 1).toNat) (zw8 (max (-1000000) (min 1000000 1)))) fun h49 =>
                              DL_X9_worth_D_4 KD9 k8 (x1 - 1) (x2 + 1) h49
                            else
                              zlt (zm_up h 2 (((x1 - 1) - 1).toNat) (zw8 (max (-1000000) (min 1000000 0)))) fun h52 =>
                              DL_X9_worth_D_4 KD9 k8 (x1 - 1) (x2 + 1) h52
                          else
                            if (zb_shr (h 3 x2.toNat) 14) = 10 then
                              if (h 2 ((x1 - 1).toNat)) ≤ (h 2 (((x1 - 1) - 1).toNat)) then
                                zlt (zm_up h 2 (((x1 - 1) - 1).toNat) (zw8 (max (-1000000) (min 1000000 0)))) fun h57 =>
                                DL_X9_worth_D_4 KD9 k8 (x1 - 1) (x2 + 1) h57
                              else
                                zlt (zm_up h 2 (((x1 - 1) - 1).toNat) (zw8 (max (-1000000) (min 1000000 1)))) fun h60 =>
                                DL_X9_worth_D_4 KD9 k8 (x1 - 1) (x2 + 1) h60
                            else
                              if (zb_shr (h 3 x2.toNat) 14) = 11 then
                                if (h 2 (((x1 - 1) - 1).toNat)) ≤ (h 2 ((x1 - 1).toNat)) then
                                  zlt (zm_up h 2 (((x1 - 1) - 1).toNat) (zw8 (max (-1000000) (min 1000000 0)))) fun h65 =>
                                  DL_X9_worth_D_4 KD9 k8 (x1 - 1) (x2 + 1) h65
                                else
                                  zlt (zm_up h 2 (((x1 - 1) - 1).toNat) (zw8 (max (-1000000) (min 1000000 1)))) fun h68 =>
                                  DL_X9_worth_D_4 KD9 k8 (x1 - 1) (x2 + 1) h68
                              else
                                if (zb_shr (h 3 x2.toNat) 14) = 12 then
                                  zlt (zm_up h 2 (((x1 - 1) - 1).toNat) (zw8 (max (-1000000) (min 1000000 (zb_andL (h 2 (((x1 - 1) - 1).toNat)) (h 2 ((x1 - 1).toNat))))))) fun h73 =>
                                  DL_X9_worth_D_4 KD9 k8 (x1 - 1) (x2 + 1) h73
                                else
                                  zlt (zm_up h 2 (((x1 - 1) - 1).toNat) (zw8 (max (-1000000) (min 1000000 (zb_orL (h 2 (((x1 - 1) - 1).toNat)) (h 2 ((x1 - 1).toNat))))))) fun h77 =>
                                  DL_X9_worth_D_4 KD9 k8 (x1 - 1) (x2 + 1) h77
          else
            if 1 ≤ (x1 - 1) then
              if (zb_shr (h 3 x2.toNat) 14) = 3 then
                ((zw (h 2 ((x1 - 1).toNat))), h)
              else
                if (zb_shr (h 3 x2.toNat) 14) = 2 then
                  if (h 2 ((x1 - 1).toNat)) = 0 then
                    DL_X9_worth_D_4 KD9 k8 (x1 - 1) ((max x2 ((zb_and (h 3 x2.toNat) 16383) - 1)) + 1) h
                  else
                    DL_X9_worth_D_4 KD9 k8 (x1 - 1) (x2 + 1) h
                else
                  if (zb_shr (h 3 x2.toNat) 14) = 4 then
                    zlt (zm_up h 2 ((x1 - 1).toNat) (zw8 (1 - (h 2 ((x1 - 1).toNat))))) fun h87 =>
                    DL_X9_worth_D_4 KD9 k8 ((x1 - 1) + 1) (x2 + 1) h87
                  else
                    if (zb_shr (h 3 x2.toNat) 14) = 5 then
                      zlt (zm_up h 2 (((x1 - 1) - 1).toNat) (zw8 (max (-1000000) (min 1000000 (zw8 ((h 2 (((x1 - 1) - 1).toNat)) + (h 2 ((x1 - 1).toNat)))))))) fun h93 =>
                      DL_X9_worth_D_4 KD9 k8 (x1 - 1) (x2 + 1) h93
                    else
                      if (zb_shr (h 3 x2.toNat) 14) = 6 then
                        zlt (zm_up h 2 (((x1 - 1) - 1).toNat) (zw8 (max (-1000000) (min 1000000 (zw8 ((h 2 (((x1 - 1) - 1).toNat)) - (h 2 ((x1 - 1).toNat)))))))) fun h98 =>
                        DL_X9_worth_D_4 KD9 k8 (x1 - 1) (x2 + 1) h98
                      else
                        if (zb_shr (h 3 x2.toNat) 14) = 7 then
                          zlt (zm_up h 2 (((x1 - 1) - 1).toNat) (zw8 (max (-1000000) (min 1000000 (zw8 ((h 2 (((x1 - 1) - 1).toNat)) * (h 2 ((x1 - 1).toNat)))))))) fun h103 =>
                          DL_X9_worth_D_4 KD9 k8 (x1 - 1) (x2 + 1) h103
                        else
                          if (zb_shr (h 3 x2.toNat) 14) = 8 then
                            if (h 2 ((x1 - 1).toNat)) = 0 then
                              zlt (zm_up h 2 (((x1 - 1) - 1).toNat) (zw8 (max (-1000000) (min 1000000 0)))) fun h108 =>
                              DL_X9_worth_D_4 KD9 k8 (x1 - 1) (x2 + 1) h108
                            else
                              zlt (zm_up h 2 (((x1 - 1) - 1).toNat) (zw8 (max (-1000000) (min 1000000 (zw8 (Int.tdiv (h 2 (((x1 - 1) - 1).toNat)) (h 2 ((x1 - 1).toNat)))))))) fun h113 =>
                              DL_X9_worth_D_4 KD9 k8 (x1 - 1) (x2 + 1) h113
                          else
                            if (zb_shr (h 3 x2.toNat) 14) = 9 then
                              if (h 2 (((x1 - 1) - 1).toNat)) = (h 2 ((x1 - 1).toNat)) then
                                zlt (zm_up h 2 (((x1 - 1) - 1).toNat) (zw8 (max (-1000000) (min 1000000 1)))) fun h118 =>
                                DL_X9_worth_D_4 KD9 k8 (x1 - 1) (x2 + 1) h118
                              else
                                zlt (zm_up h 2 (((x1 - 1) - 1).toNat) (zw8 (max (-1000000) (min 1000000 0)))) fun h121 =>
                                DL_X9_worth_D_4 KD9 k8 (x1 - 1) (x2 + 1) h121
                            else
                              if (zb_shr (h 3 x2.toNat) 14) = 10 then
                                if (h 2 ((x1 - 1).toNat)) ≤ (h 2 (((x1 - 1) - 1).toNat)) then
                                  zlt (zm_up h 2 (((x1 - 1) - 1).toNat) (zw8 (max (-1000000) (min 1000000 0)))) fun h126 =>
                                  DL_X9_worth_D_4 KD9 k8 (x1 - 1) (x2 + 1) h126
                                else
                                  zlt (zm_up h 2 (((x1 - 1) - 1).toNat) (zw8 (max (-1000000) (min 1000000 1)))) fun h129 =>
                                  DL_X9_worth_D_4 KD9 k8 (x1 - 1) (x2 + 1) h129
                              else
                                if (zb_shr (h 3 x2.toNat) 14) = 11 then
                                  if (h 2 (((x1 - 1) - 1).toNat)) ≤ (h 2 ((x1 - 1).toNat)) then
                                    zlt (zm_up h 2 (((x1 - 1) - 1).toNat) (zw8 (max (-1000000) (min 1000000 0)))) fun h134 =>
                                    DL_X9_worth_D_4 KD9 k8 (x1 - 1) (x2 + 1) h134
                                  else
                                    zlt (zm_up h 2 (((x1 - 1) - 1).toNat) (zw8 (max (-1000000) (min 1000000 1)))) fun h137 =>
                                    DL_X9_worth_D_4 KD9 k8 (x1 - 1) (x2 + 1) h137
                                else
                                  if (zb_shr (h 3 x2.toNat) 14) = 12 then
                                    zlt (zm_up h 2 (((x1 - 1) - 1).toNat) (zw8 (max (-1000000) (min 1000000 (zb_andL (h 2 (((x1 - 1) - 1).toNat)) (h 2 ((x1 - 1).toNat))))))) fun h142 =>
                                    DL_X9_worth_D_4 KD9 k8 (x1 - 1) (x2 + 1) h142
                                  else
                                    zlt (zm_up h 2 (((x1 - 1) - 1).toNat) (zw8 (max (-1000000) (min 1000000 (zb_orL (h 2 (((x1 - 1) - 1).toNat)) (h 2 ((x1 - 1).toNat))))))) fun h146 =>
                                    DL_X9_worth_D_4 KD9 k8 (x1 - 1) (x2 + 1) h146
            else
              (0, h)
      else
        if 32 ≤ x1 then
          (0, h)
        else
          if (zb_shr (h 3 x2.toNat) 14) = 1 then
            if (zb_and (h 3 x2.toNat) 16383) < 6 then
              if (zb_shr (h 3 x2.toNat) 14) = 0 then
                zlt (zm_up h 2 x1.toNat (zw8 (zb_and (h 3 x2.toNat) 16383))) fun h153 =>
                DL_X9_worth_D_4 KD9 k8 (x1 + 1) (x2 + 1) h153
              else
                zlt (zm_up h 2 x1.toNat (zw8 (h 1 ((zb_and (h 3 x2.toNat) 16383).toNat)))) fun h157 =>
                DL_X9_worth_D_4 KD9 k8 (x1 + 1) (x2 + 1) h157
            else
              (0, h)
          else
            if (zb_shr (h 3 x2.toNat) 14) = 0 then
              zlt (zm_up h 2 x1.toNat (zw8 (zb_and (h 3 x2.toNat) 16383))) fun h161 =>
              DL_X9_worth_D_4 KD9 k8 (x1 + 1) (x2 + 1) h161
            else
              zlt (zm_up h 2 x1.toNat (zw8 (h 1 ((zb_and (h 3 x2.toNat) 16383).toNat)))) fun h165 =>
              DL_X9_worth_D_4 KD9 k8 (x1 + 1) (x2 + 1) h165

def D_X9_worth_D (h : zM) : Int × zM :=
  DL_X9_worth_D_4 (fun x1_167 x2_167 h_167 =>
      (0, h_167)
    ) ((240 - (0 : Int)).toNat + 1) 0 0 h

def D_X8_isDigit_D (a : Int) : Int :=
  if a < 48 then
    0
  else
    if 57 < a then
      0
    else
      1

def D_X8_here_D (h : zM) : Int :=
  if (h 1 1) ≤ (h 1 2) then
    (-1)
  else
    (h 2 ((h 1 2).toNat))

def DL_X8_next_D_0 (KD9 : zM → Int × zM) : Nat → zM → Int × zM
  | 0, h => KD9  h
  | k8 + 1, h =>
    if (h 1 1) ≤ (h 1 2) then
      KD9  h
    else
      if (h 2 ((h 1 2).toNat)) = 32 then
        zlt (zm_up h 1 2 ((h 1 2) + 1)) fun h6 =>
        DL_X8_next_D_0 KD9 k8  h6
      else
        KD9  h

def D_X8_next_D (h : zM) : Int × zM :=
  DL_X8_next_D_0 (fun h_16 =>
      zlt (D_X8_here_D h_16) fun r19 =>
      (r19, h_16)
    ) ((240 - h 1 2).toNat + 1)  h

def D_X8_takes_D (a : Int) (h : zM) : Int × zM :=
  zl2 (D_X8_next_D h) fun r3 h3 =>
  if r3 = a then
    zlt (zm_up h3 1 2 ((h3 1 2) + 1)) fun h13 =>
    (1, h13)
  else
    (0, h3)

def DL_X8_takesNumber_D_19 (n : Int) (KD9 : Int → zM → Int × zM) : Nat → Int → zM → Int × zM
  | 0, x2, h => KD9 x2 h
  | k8 + 1, x2, h =>
    if n ≤ x2 then
      KD9 x2 h
    else
      zlt (D_X8_here_D h) fun r5 =>
      zlt (D_X8_isDigit_D r5) fun r6 =>
      if r6 = 0 then
        KD9 x2 h
      else
        zlt (D_X8_here_D h) fun r8 =>
        zlt (zm_up h 1 3 (zw ((((h 1 3) * 10) + r8) - 48))) fun h11 =>
        zlt (zm_up h11 1 2 ((h11 1 2) + 1)) fun h21 =>
        DL_X8_takesNumber_D_19 n KD9 k8 (x2 + 1) h21

def D_X8_takesNumber_D (n : Int) (h : zM) : Int × zM :=
  zlt (zm_up h 1 3 0) fun h33 =>
  zl2 (D_X8_next_D h33) fun r42 h42 =>
  zlt (D_X8_isDigit_D r42) fun r52 =>
  if r52 = 0 then
    (0, h42)
  else
    DL_X8_takesNumber_D_19 n (fun x2_54 h_54 =>
        zlt (D_X8_here_D h_54) fun r58 =>
        zlt (D_X8_isDigit_D r58) fun r59 =>
        if r59 = 0 then
          (1, h_54)
        else
          (0, h_54)
      ) ((n - (0 : Int)).toNat + 1) 0 h42

def D_X10_emit_D (sign : Int) (operand : Int) (h : zM) : Int × zM :=
  if 240 ≤ (h 10 2) then
    (1, h)
  else
    zlt (zm_up h 11 ((h 10 2).toNat) (zb_or (zb_shl sign 14) operand)) fun h9 =>
    zlt (zm_up h9 10 2 ((h9 10 2) + 1)) fun h15 =>
    (1, h15)

def D_X10_atom_G_D (F_sum : zM → Int × zM) (Lv : Int) (h : zM) : Int × zM :=
  zl2 (D_X8_next_D h) fun r4 h4 =>
  if r4 = 91 then
    if Lv = 6 then
      (0, h4)
    else
      zlt (zm_up h4 1 2 ((h4 1 2) + 1)) fun h11 =>
      zl2 (F_sum h11) fun r15 h15 =>
      if r15 = 0 then
        (0, h15)
      else
        zl2 (D_X8_takes_D 93 h15) fun r21 h21 =>
        if r21 = 0 then
          (0, h21)
        else
          (1, h21)
  else
    zlt (D_X8_isDigit_D r4) fun r27 =>
    if r27 = 0 then
      if r4 = (-1) then
        (0, h4)
      else
        zlt (zix zLs3 0 (r4 % 65536)) fun r31 =>
        if r31 = (-1) then
          (0, h4)
        else
          zlt (zm_up h4 1 2 ((h4 1 2) + 1)) fun h33 =>
          if r4 = 112 then
            zlt (zm_up h33 10 3 (zb_or (h33 10 3) 1)) fun h45 =>
            zl2 (D_X10_emit_D 1 r31 h45) fun r50 h50 =>
            (r50, h50)
          else
            zlt (zm_up h33 10 3 (zb_or (h33 10 3) 0)) fun h61 =>
            zl2 (D_X10_emit_D 1 r31 h61) fun r66 h66 =>
            (r66, h66)
    else
      zl2 (D_X8_takesNumber_D 4 h4) fun r71 h71 =>
      if r71 = 0 then
        (0, h71)
      else
        zl2 (D_X10_emit_D 0 (h71 1 3) h71) fun r78 h78 =>
        if r78 = 0 then
          (0, h78)
        else
          (1, h78)

def DL_X10_term_G_D_12 (F_atom : zM → Int × zM) (Lv : Int) (KD9 : Int → zM → Int × zM) : Nat → Int → zM → Int × zM
  | 0, x2, h => KD9 x2 h
  | k8 + 1, x2, h =>
    if 240 ≤ x2 then
      KD9 x2 h
    else
      zl2 (D_X8_next_D h) fun r5 h5 =>
      if r5 = 42 then
        zlt (zm_up h5 1 2 ((h5 1 2) + 1)) fun h11 =>
        zl2 (F_atom h11) fun r15 h15 =>
        if r15 = 0 then
          (0, h15)
        else
          if r5 = 42 then
            zl2 (D_X10_emit_D 7 0 h15) fun r22 h22 =>
            DL_X10_term_G_D_12 F_atom Lv KD9 k8 (x2 + 1) h22
          else
            zl2 (D_X10_emit_D 8 0 h15) fun r27 h27 =>
            DL_X10_term_G_D_12 F_atom Lv KD9 k8 (x2 + 1) h27
      else
        if r5 = 47 then
          zlt (zm_up h5 1 2 ((h5 1 2) + 1)) fun h33 =>
          zl2 (F_atom h33) fun r37 h37 =>
          if r37 = 0 then
            (0, h37)
          else
            if r5 = 42 then
              zl2 (D_X10_emit_D 7 0 h37) fun r44 h44 =>
              DL_X10_term_G_D_12 F_atom Lv KD9 k8 (x2 + 1) h44
            else
              zl2 (D_X10_emit_D 8 0 h37) fun r49 h49 =>
              DL_X10_term_G_D_12 F_atom Lv KD9 k8 (x2 + 1) h49
        else
          (1, h5)

def D_X10_term_G_D (F_atom : zM → Int × zM) (Lv : Int) (h : zM) : Int × zM :=
  zl2 (F_atom h) fun r57 h57 =>
  if r57 = 0 then
    (0, h57)
  else
    DL_X10_term_G_D_12 F_atom Lv (fun x2_63 h_63 =>
        (0, h_63)
      ) ((240 - (0 : Int)).toNat + 1) 0 h57

def DL_X10_sum_G_D_12 (F_term : zM → Int × zM) (Lv : Int) (KD9 : Int → zM → Int × zM) : Nat → Int → zM → Int × zM
  | 0, x2, h => KD9 x2 h
  | k8 + 1, x2, h =>
    if 240 ≤ x2 then
      KD9 x2 h
    else
      zl2 (D_X8_next_D h) fun r5 h5 =>
      if r5 = 43 then
        zlt (zm_up h5 1 2 ((h5 1 2) + 1)) fun h11 =>
        zl2 (F_term h11) fun r15 h15 =>
        if r15 = 0 then
          (0, h15)
        else
          if r5 = 43 then
            zl2 (D_X10_emit_D 5 0 h15) fun r22 h22 =>
            DL_X10_sum_G_D_12 F_term Lv KD9 k8 (x2 + 1) h22
          else
            zl2 (D_X10_emit_D 6 0 h15) fun r27 h27 =>
            DL_X10_sum_G_D_12 F_term Lv KD9 k8 (x2 + 1) h27
      else
        if r5 = 45 then
          zlt (zm_up h5 1 2 ((h5 1 2) + 1)) fun h33 =>
          zl2 (F_term h33) fun r37 h37 =>
          if r37 = 0 then
            (0, h37)
          else
            if r5 = 43 then
              zl2 (D_X10_emit_D 5 0 h37) fun r44 h44 =>
              DL_X10_sum_G_D_12 F_term Lv KD9 k8 (x2 + 1) h44
            else
              zl2 (D_X10_emit_D 6 0 h37) fun r49 h49 =>
              DL_X10_sum_G_D_12 F_term Lv KD9 k8 (x2 + 1) h49
        else
          (1, h5)

def D_X10_sum_G_D (F_term : zM → Int × zM) (Lv : Int) (h : zM) : Int × zM :=
  zl2 (F_term h) fun r57 h57 =>
  if r57 = 0 then
    (0, h57)
  else
    DL_X10_sum_G_D_12 F_term Lv (fun x2_63 h_63 =>
        (0, h_63)
      ) ((240 - (0 : Int)).toNat + 1) 0 h57

def D_X10_unit_G_D (F_sum : zM → Int × zM) (F_deeperUnit : Int → zM → Int × zM) (begun : Int) (Lv : Int) (h : zM) : Int × zM :=
  if begun = 0 then
    zl2 (D_X8_next_D h) fun r5 h5 =>
    if r5 = 33 then
      if 6 ≤ Lv then
        (0, h5)
      else
        zl2 (F_deeperUnit r5 h5) fun r12 h12 =>
        if r12 = 0 then
          (0, h12)
        else
          (1, h12)
    else
      if r5 = 40 then
        if 6 ≤ Lv then
          (0, h5)
        else
          zl2 (F_deeperUnit r5 h5) fun r20 h20 =>
          if r20 = 0 then
            (0, h20)
          else
            (1, h20)
      else
        if begun = 0 then
          zl2 (F_sum h5) fun r27 h27 =>
          if r27 = 0 then
            (0, h27)
          else
            zl2 (D_X8_next_D h27) fun r33 h33 =>
            if r33 = 61 then
              if r33 = 61 then
                zlt (zm_up h33 1 2 ((h33 1 2) + 1)) fun h40 =>
                zl2 (F_sum h40) fun r44 h44 =>
                if r44 = 0 then
                  (0, h44)
                else
                  if r33 = 62 then
                    zl2 (D_X10_emit_D 11 0 h44) fun r51 h51 =>
                    if r51 = 0 then
                      (0, h51)
                    else
                      (1, h51)
                  else
                    zl2 (D_X10_emit_D 9 0 h44) fun r57 h57 =>
                    if r57 = 0 then
                      (0, h57)
                    else
                      (1, h57)
              else
                zlt (zm_up h33 1 2 ((h33 1 2) + 1)) fun h63 =>
                zl2 (F_sum h63) fun r67 h67 =>
                if r67 = 0 then
                  (0, h67)
                else
                  if r33 = 62 then
                    zl2 (D_X10_emit_D 11 0 h67) fun r74 h74 =>
                    if r74 = 0 then
                      (0, h74)
                    else
                      (1, h74)
                  else
                    zl2 (D_X10_emit_D 10 0 h67) fun r80 h80 =>
                    if r80 = 0 then
                      (0, h80)
                    else
                      (1, h80)
            else
              if r33 = 60 then
                if r33 = 61 then
                  zlt (zm_up h33 1 2 ((h33 1 2) + 1)) fun h88 =>
                  zl2 (F_sum h88) fun r92 h92 =>
                  if r92 = 0 then
                    (0, h92)
                  else
                    if r33 = 62 then
                      zl2 (D_X10_emit_D 11 0 h92) fun r99 h99 =>
                      if r99 = 0 then
                        (0, h99)
                      else
                        (1, h99)
                    else
                      zl2 (D_X10_emit_D 9 0 h92) fun r105 h105 =>
                      if r105 = 0 then
                        (0, h105)
                      else
                        (1, h105)
                else
                  zlt (zm_up h33 1 2 ((h33 1 2) + 1)) fun h111 =>
                  zl2 (F_sum h111) fun r115 h115 =>
                  if r115 = 0 then
                    (0, h115)
                  else
                    if r33 = 62 then
                      zl2 (D_X10_emit_D 11 0 h115) fun r122 h122 =>
                      if r122 = 0 then
                        (0, h122)
                      else
                        (1, h122)
                    else
                      zl2 (D_X10_emit_D 10 0 h115) fun r128 h128 =>
                      if r128 = 0 then
                        (0, h128)
                      else
                        (1, h128)
              else
                if r33 = 62 then
                  if r33 = 61 then
                    zlt (zm_up h33 1 2 ((h33 1 2) + 1)) fun h136 =>
                    zl2 (F_sum h136) fun r140 h140 =>
                    if r140 = 0 then
                      (0, h140)
                    else
                      if r33 = 62 then
                        zl2 (D_X10_emit_D 11 0 h140) fun r147 h147 =>
                        if r147 = 0 then
                          (0, h147)
                        else
                          (1, h147)
                      else
                        zl2 (D_X10_emit_D 9 0 h140) fun r153 h153 =>
                        if r153 = 0 then
                          (0, h153)
                        else
                          (1, h153)
                  else
                    zlt (zm_up h33 1 2 ((h33 1 2) + 1)) fun h159 =>
                    zl2 (F_sum h159) fun r163 h163 =>
                    if r163 = 0 then
                      (0, h163)
                    else
                      if r33 = 62 then
                        zl2 (D_X10_emit_D 11 0 h163) fun r170 h170 =>
                        if r170 = 0 then
                          (0, h170)
                        else
                          (1, h170)
                      else
                        zl2 (D_X10_emit_D 10 0 h163) fun r176 h176 =>
                        if r176 = 0 then
                          (0, h176)
                        else
                          (1, h176)
                else
                  (0, h33)
        else
          zl2 (D_X8_next_D h5) fun r182 h182 =>
          if r182 = 61 then
            if r182 = 61 then
              zlt (zm_up h182 1 2 ((h182 1 2) + 1)) fun h189 =>
              zl2 (F_sum h189) fun r193 h193 =>
              if r193 = 0 then
                (0, h193)
              else
                if r182 = 62 then
                  zl2 (D_X10_emit_D 11 0 h193) fun r200 h200 =>
                  if r200 = 0 then
                    (0, h200)
                  else
                    (1, h200)
                else
                  zl2 (D_X10_emit_D 9 0 h193) fun r206 h206 =>
                  if r206 = 0 then
                    (0, h206)
                  else
                    (1, h206)
            else
              zlt (zm_up h182 1 2 ((h182 1 2) + 1)) fun h212 =>
              zl2 (F_sum h212) fun r216 h216 =>
              if r216 = 0 then
                (0, h216)
              else
                if r182 = 62 then
                  zl2 (D_X10_emit_D 11 0 h216) fun r223 h223 =>
                  if r223 = 0 then
                    (0, h223)
                  else
                    (1, h223)
                else
                  zl2 (D_X10_emit_D 10 0 h216) fun r229 h229 =>
                  if r229 = 0 then
                    (0, h229)
                  else
                    (1, h229)
          else
            if r182 = 60 then
              if r182 = 61 then
                zlt (zm_up h182 1 2 ((h182 1 2) + 1)) fun h237 =>
                zl2 (F_sum h237) fun r241 h241 =>
                if r241 = 0 then
                  (0, h241)
                else
                  if r182 = 62 then
                    zl2 (D_X10_emit_D 11 0 h241) fun r248 h248 =>
                    if r248 = 0 then
                      (0, h248)
                    else
                      (1, h248)
                  else
                    zl2 (D_X10_emit_D 9 0 h241) fun r254 h254 =>
                    if r254 = 0 then
                      (0, h254)
                    else
                      (1, h254)
              else
                zlt (zm_up h182 1 2 ((h182 1 2) + 1)) fun h260 =>
                zl2 (F_sum h260) fun r264 h264 =>
                if r264 = 0 then
                  (0, h264)
                else
                  if r182 = 62 then
                    zl2 (D_X10_emit_D 11 0 h264) fun r271 h271 =>
                    if r271 = 0 then
                      (0, h271)
                    else
                      (1, h271)
                  else
                    zl2 (D_X10_emit_D 10 0 h264) fun r277 h277 =>
                    if r277 = 0 then
                      (0, h277)
                    else
                      (1, h277)
            else
              if r182 = 62 then
                if r182 = 61 then
                  zlt (zm_up h182 1 2 ((h182 1 2) + 1)) fun h285 =>
                  zl2 (F_sum h285) fun r289 h289 =>
                  if r289 = 0 then
                    (0, h289)
                  else
                    if r182 = 62 then
                      zl2 (D_X10_emit_D 11 0 h289) fun r296 h296 =>
                      if r296 = 0 then
                        (0, h296)
                      else
                        (1, h296)
                    else
                      zl2 (D_X10_emit_D 9 0 h289) fun r302 h302 =>
                      if r302 = 0 then
                        (0, h302)
                      else
                        (1, h302)
                else
                  zlt (zm_up h182 1 2 ((h182 1 2) + 1)) fun h308 =>
                  zl2 (F_sum h308) fun r312 h312 =>
                  if r312 = 0 then
                    (0, h312)
                  else
                    if r182 = 62 then
                      zl2 (D_X10_emit_D 11 0 h312) fun r319 h319 =>
                      if r319 = 0 then
                        (0, h319)
                      else
                        (1, h319)
                    else
                      zl2 (D_X10_emit_D 10 0 h312) fun r325 h325 =>
                      if r325 = 0 then
                        (0, h325)
                      else
                        (1, h325)
              else
                (0, h182)
  else
    if begun = 0 then
      zl2 (F_sum h) fun r334 h334 =>
      if r334 = 0 then
        (0, h334)
      else
        zl2 (D_X8_next_D h334) fun r340 h340 =>
        if r340 = 61 then
          if r340 = 61 then
            zlt (zm_up h340 1 2 ((h340 1 2) + 1)) fun h347 =>
            zl2 (F_sum h347) fun r351 h351 =>
            if r351 = 0 then
              (0, h351)
            else
              if r340 = 62 then
                zl2 (D_X10_emit_D 11 0 h351) fun r358 h358 =>
                if r358 = 0 then
                  (0, h358)
                else
                  (1, h358)
              else
                zl2 (D_X10_emit_D 9 0 h351) fun r364 h364 =>
                if r364 = 0 then
                  (0, h364)
                else
                  (1, h364)
          else
            zlt (zm_up h340 1 2 ((h340 1 2) + 1)) fun h370 =>
            zl2 (F_sum h370) fun r374 h374 =>
            if r374 = 0 then
              (0, h374)
            else
              if r340 = 62 then
                zl2 (D_X10_emit_D 11 0 h374) fun r381 h381 =>
                if r381 = 0 then
                  (0, h381)
                else
                  (1, h381)
              else
                zl2 (D_X10_emit_D 10 0 h374) fun r387 h387 =>
                if r387 = 0 then
                  (0, h387)
                else
                  (1, h387)
        else
          if r340 = 60 then
            if r340 = 61 then
              zlt (zm_up h340 1 2 ((h340 1 2) + 1)) fun h395 =>
              zl2 (F_sum h395) fun r399 h399 =>
              if r399 = 0 then
                (0, h399)
              else
                if r340 = 62 then
                  zl2 (D_X10_emit_D 11 0 h399) fun r406 h406 =>
                  if r406 = 0 then
                    (0, h406)
                  else
                    (1, h406)
                else
                  zl2 (D_X10_emit_D 9 0 h399) fun r412 h412 =>
                  if r412 = 0 then
                    (0, h412)
                  else
                    (1, h412)
            else
              zlt (zm_up h340 1 2 ((h340 1 2) + 1)) fun h418 =>
              zl2 (F_sum h418) fun r422 h422 =>
              if r422 = 0 then
                (0, h422)
              else
                if r340 = 62 then
                  zl2 (D_X10_emit_D 11 0 h422) fun r429 h429 =>
                  if r429 = 0 then
                    (0, h429)
                  else
                    (1, h429)
                else
                  zl2 (D_X10_emit_D 10 0 h422) fun r435 h435 =>
                  if r435 = 0 then
                    (0, h435)
                  else
                    (1, h435)
          else
            if r340 = 62 then
              if r340 = 61 then
                zlt (zm_up h340 1 2 ((h340 1 2) + 1)) fun h443 =>
                zl2 (F_sum h443) fun r447 h447 =>
                if r447 = 0 then
                  (0, h447)
                else
                  if r340 = 62 then
                    zl2 (D_X10_emit_D 11 0 h447) fun r454 h454 =>
                    if r454 = 0 then
                      (0, h454)
                    else
                      (1, h454)
                  else
                    zl2 (D_X10_emit_D 9 0 h447) fun r460 h460 =>
                    if r460 = 0 then
                      (0, h460)
                    else
                      (1, h460)
              else
                zlt (zm_up h340 1 2 ((h340 1 2) + 1)) fun h466 =>
                zl2 (F_sum h466) fun r470 h470 =>
                if r470 = 0 then
                  (0, h470)
                else
                  if r340 = 62 then
                    zl2 (D_X10_emit_D 11 0 h470) fun r477 h477 =>
                    if r477 = 0 then
                      (0, h477)
                    else
                      (1, h477)
                  else
                    zl2 (D_X10_emit_D 10 0 h470) fun r483 h483 =>
                    if r483 = 0 then
                      (0, h483)
                    else
                      (1, h483)
            else
              (0, h340)
    else
      zl2 (D_X8_next_D h) fun r489 h489 =>
      if r489 = 61 then
        if r489 = 61 then
          zlt (zm_up h489 1 2 ((h489 1 2) + 1)) fun h496 =>
          zl2 (F_sum h496) fun r500 h500 =>
          if r500 = 0 then
            (0, h500)
          else
            if r489 = 62 then
              zl2 (D_X10_emit_D 11 0 h500) fun r507 h507 =>
              if r507 = 0 then
                (0, h507)
              else
                (1, h507)
            else
              zl2 (D_X10_emit_D 9 0 h500) fun r513 h513 =>
              if r513 = 0 then
                (0, h513)
              else
                (1, h513)
        else
          zlt (zm_up h489 1 2 ((h489 1 2) + 1)) fun h519 =>
          zl2 (F_sum h519) fun r523 h523 =>
          if r523 = 0 then
            (0, h523)
          else
            if r489 = 62 then
              zl2 (D_X10_emit_D 11 0 h523) fun r530 h530 =>
              if r530 = 0 then
                (0, h530)
              else
                (1, h530)
            else
              zl2 (D_X10_emit_D 10 0 h523) fun r536 h536 =>
              if r536 = 0 then
                (0, h536)
              else
                (1, h536)
      else
        if r489 = 60 then
          if r489 = 61 then
            zlt (zm_up h489 1 2 ((h489 1 2) + 1)) fun h544 =>
            zl2 (F_sum h544) fun r548 h548 =>
            if r548 = 0 then
              (0, h548)
            else
              if r489 = 62 then
                zl2 (D_X10_emit_D 11 0 h548) fun r555 h555 =>
                if r555 = 0 then
                  (0, h555)
                else
                  (1, h555)
              else
                zl2 (D_X10_emit_D 9 0 h548) fun r561 h561 =>
                if r561 = 0 then
                  (0, h561)
                else
                  (1, h561)
          else
            zlt (zm_up h489 1 2 ((h489 1 2) + 1)) fun h567 =>
            zl2 (F_sum h567) fun r571 h571 =>
            if r571 = 0 then
              (0, h571)
            else
              if r489 = 62 then
                zl2 (D_X10_emit_D 11 0 h571) fun r578 h578 =>
                if r578 = 0 then
                  (0, h578)
                else
                  (1, h578)
              else
                zl2 (D_X10_emit_D 10 0 h571) fun r584 h584 =>
                if r584 = 0 then
                  (0, h584)
                else
                  (1, h584)
        else
          if r489 = 62 then
            if r489 = 61 then
              zlt (zm_up h489 1 2 ((h489 1 2) + 1)) fun h592 =>
              zl2 (F_sum h592) fun r596 h596 =>
              if r596 = 0 then
                (0, h596)
              else
                if r489 = 62 then
                  zl2 (D_X10_emit_D 11 0 h596) fun r603 h603 =>
                  if r603 = 0 then
                    (0, h603)
                  else
                    (1, h603)
                else
                  zl2 (D_X10_emit_D 9 0 h596) fun r609 h609 =>
                  if r609 = 0 then
                    (0, h609)
                  else
                    (1, h609)
            else
              zlt (zm_up h489 1 2 ((h489 1 2) + 1)) fun h615 =>
              zl2 (F_sum h615) fun r619 h619 =>
              if r619 = 0 then
                (0, h619)
              else
                if r489 = 62 then
                  zl2 (D_X10_emit_D 11 0 h619) fun r626 h626 =>
                  if r626 = 0 then
                    (0, h626)
                  else
                    (1, h626)
                else
                  zl2 (D_X10_emit_D 10 0 h619) fun r632 h632 =>
                  if r632 = 0 then
                    (0, h632)
                  else
                    (1, h632)
          else
            (0, h489)

def DL_X10_truths_G_D_13 (F_unit : Int → zM → Int × zM) (begun : Int) (Lv : Int) (KD9 : Int → zM → Int × zM) : Nat → Int → zM → Int × zM
  | 0, x3, h => KD9 x3 h
  | k8 + 1, x3, h =>
    if 240 ≤ x3 then
      KD9 x3 h
    else
      zl2 (D_X8_takes_D 38 h) fun r5 h5 =>
      if r5 = 0 then
        KD9 x3 h5
      else
        zl2 (F_unit 0 h5) fun r11 h11 =>
        if r11 = 0 then
          (0, h11)
        else
          zl2 (D_X10_emit_D 12 0 h11) fun r17 h17 =>
          DL_X10_truths_G_D_13 F_unit begun Lv KD9 k8 (x3 + 1) h17

def D_X10_truths_G_D (F_unit : Int → zM → Int × zM) (begun : Int) (Lv : Int) (h : zM) : Int × zM :=
  zl2 (F_unit begun h) fun r25 h25 =>
  if r25 = 0 then
    (0, h25)
  else
    DL_X10_truths_G_D_13 F_unit begun Lv (fun x3_31 h_31 =>
        (1, h_31)
      ) ((240 - (0 : Int)).toNat + 1) 0 h25

def DL_X10_condition_G_D_13 (F_truths : Int → zM → Int × zM) (begun : Int) (Lv : Int) (KD9 : Int → zM → Int × zM) : Nat → Int → zM → Int × zM
  | 0, x3, h => KD9 x3 h
  | k8 + 1, x3, h =>
    if 240 ≤ x3 then
      KD9 x3 h
    else
      zl2 (D_X8_takes_D 124 h) fun r5 h5 =>
      if r5 = 0 then
        KD9 x3 h5
      else
        zl2 (F_truths 0 h5) fun r11 h11 =>
        if r11 = 0 then
          (0, h11)
        else
          zl2 (D_X10_emit_D 13 0 h11) fun r17 h17 =>
          DL_X10_condition_G_D_13 F_truths begun Lv KD9 k8 (x3 + 1) h17

def D_X10_condition_G_D (F_truths : Int → zM → Int × zM) (begun : Int) (Lv : Int) (h : zM) : Int × zM :=
  zl2 (F_truths begun h) fun r25 h25 =>
  if r25 = 0 then
    (0, h25)
  else
    DL_X10_condition_G_D_13 F_truths begun Lv (fun x3_31 h_31 =>
        (1, h_31)
      ) ((240 - (0 : Int)).toNat + 1) 0 h25

def D_X10_deeperUnit_G_D (F_unit : Int → zM → Int × zM) (F_condition : Int → zM → Int × zM) (sign : Int) (Lv : Int) (h : zM) : Int × zM :=
  zlt (zm_up h 1 2 ((h 1 2) + 1)) fun h4 =>
  if sign = 33 then
    zl2 (F_unit 0 h4) fun r12 h12 =>
    if r12 = 0 then
      (0, h12)
    else
      zl2 (D_X10_emit_D 4 0 h12) fun r18 h18 =>
      if r18 = 0 then
        (0, h18)
      else
        (1, h18)
  else
    zl2 (F_condition 0 h4) fun r27 h27 =>
    if r27 = 0 then
      (0, h27)
    else
      zl2 (D_X8_takes_D 41 h27) fun r33 h33 =>
      if r33 = 0 then
        (0, h33)
      else
        (1, h33)

def D_X10_atom_L6_D : zM → Int × zM := fun h => D_X10_atom_G_D (fun h => (0, h)) 6 h
def D_X10_term_L6_D : zM → Int × zM := fun h => D_X10_term_G_D D_X10_atom_L6_D 6 h
def D_X10_sum_L6_D : zM → Int × zM := fun h => D_X10_sum_G_D D_X10_term_L6_D 6 h
def D_X10_unit_L6_D : Int → zM → Int × zM := fun begun h => D_X10_unit_G_D D_X10_sum_L6_D (fun _ h => (0, h)) begun 6 h
def D_X10_truths_L6_D : Int → zM → Int × zM := fun begun h => D_X10_truths_G_D D_X10_unit_L6_D begun 6 h
def D_X10_condition_L6_D : Int → zM → Int × zM := fun begun h => D_X10_condition_G_D D_X10_truths_L6_D begun 6 h
def D_X10_deeperUnit_L6_D : Int → zM → Int × zM := fun sign h => D_X10_deeperUnit_G_D D_X10_unit_L6_D D_X10_condition_L6_D sign 6 h
def D_X10_atom_L5_D : zM → Int × zM := fun h => D_X10_atom_G_D D_X10_sum_L6_D 5 h
def D_X10_term_L5_D : zM → Int × zM := fun h => D_X10_term_G_D D_X10_atom_L5_D 5 h
def D_X10_sum_L5_D : zM → Int × zM := fun h => D_X10_sum_G_D D_X10_term_L5_D 5 h
def D_X10_unit_L5_D : Int → zM → Int × zM := fun begun h => D_X10_unit_G_D D_X10_sum_L5_D D_X10_deeperUnit_L6_D begun 5 h
def D_X10_truths_L5_D : Int → zM → Int × zM := fun begun h => D_X10_truths_G_D D_X10_unit_L5_D begun 5 h
def D_X10_condition_L5_D : Int → zM → Int × zM := fun begun h => D_X10_condition_G_D D_X10_truths_L5_D begun 5 h
def D_X10_deeperUnit_L5_D : Int → zM → Int × zM := fun sign h => D_X10_deeperUnit_G_D D_X10_unit_L5_D D_X10_condition_L5_D sign 5 h
def D_X10_atom_L4_D : zM → Int × zM := fun h => D_X10_atom_G_D D_X10_sum_L5_D 4 h
def D_X10_term_L4_D : zM → Int × zM := fun h => D_X10_term_G_D D_X10_atom_L4_D 4 h
def D_X10_sum_L4_D : zM → Int × zM := fun h => D_X10_sum_G_D D_X10_term_L4_D 4 h
def D_X10_unit_L4_D : Int → zM → Int × zM := fun begun h => D_X10_unit_G_D D_X10_sum_L4_D D_X10_deeperUnit_L5_D begun 4 h
def D_X10_truths_L4_D : Int → zM → Int × zM := fun begun h => D_X10_truths_G_D D_X10_unit_L4_D begun 4 h
def D_X10_condition_L4_D : Int → zM → Int × zM := fun begun h => D_X10_condition_G_D D_X10_truths_L4_D begun 4 h
def D_X10_deeperUnit_L4_D : Int → zM → Int × zM := fun sign h => D_X10_deeperUnit_G_D D_X10_unit_L4_D D_X10_condition_L4_D sign 4 h
def D_X10_atom_L3_D : zM → Int × zM := fun h => D_X10_atom_G_D D_X10_sum_L4_D 3 h
def D_X10_term_L3_D : zM → Int × zM := fun h => D_X10_term_G_D D_X10_atom_L3_D 3 h
def D_X10_sum_L3_D : zM → Int × zM := fun h => D_X10_sum_G_D D_X10_term_L3_D 3 h
def D_X10_unit_L3_D : Int → zM → Int × zM := fun begun h => D_X10_unit_G_D D_X10_sum_L3_D D_X10_deeperUnit_L4_D begun 3 h
def D_X10_truths_L3_D : Int → zM → Int × zM := fun begun h => D_X10_truths_G_D D_X10_unit_L3_D begun 3 h
def D_X10_condition_L3_D : Int → zM → Int × zM := fun begun h => D_X10_condition_G_D D_X10_truths_L3_D begun 3 h
def D_X10_deeperUnit_L3_D : Int → zM → Int × zM := fun sign h => D_X10_deeperUnit_G_D D_X10_unit_L3_D D_X10_condition_L3_D sign 3 h
def D_X10_atom_L2_D : zM → Int × zM := fun h => D_X10_atom_G_D D_X10_sum_L3_D 2 h
def D_X10_term_L2_D : zM → Int × zM := fun h => D_X10_term_G_D D_X10_atom_L2_D 2 h
def D_X10_sum_L2_D : zM → Int × zM := fun h => D_X10_sum_G_D D_X10_term_L2_D 2 h
def D_X10_unit_L2_D : Int → zM → Int × zM := fun begun h => D_X10_unit_G_D D_X10_sum_L2_D D_X10_deeperUnit_L3_D begun 2 h
def D_X10_truths_L2_D : Int → zM → Int × zM := fun begun h => D_X10_truths_G_D D_X10_unit_L2_D begun 2 h
def D_X10_condition_L2_D : Int → zM → Int × zM := fun begun h => D_X10_condition_G_D D_X10_truths_L2_D begun 2 h
def D_X10_deeperUnit_L2_D : Int → zM → Int × zM := fun sign h => D_X10_deeperUnit_G_D D_X10_unit_L2_D D_X10_condition_L2_D sign 2 h
def D_X10_atom_L1_D : zM → Int × zM := fun h => D_X10_atom_G_D D_X10_sum_L2_D 1 h
def D_X10_term_L1_D : zM → Int × zM := fun h => D_X10_term_G_D D_X10_atom_L1_D 1 h
def D_X10_sum_L1_D : zM → Int × zM := fun h => D_X10_sum_G_D D_X10_term_L1_D 1 h
def D_X10_unit_L1_D : Int → zM → Int × zM := fun begun h => D_X10_unit_G_D D_X10_sum_L1_D D_X10_deeperUnit_L2_D begun 1 h
def D_X10_truths_L1_D : Int → zM → Int × zM := fun begun h => D_X10_truths_G_D D_X10_unit_L1_D begun 1 h
def D_X10_condition_L1_D : Int → zM → Int × zM := fun begun h => D_X10_condition_G_D D_X10_truths_L1_D begun 1 h
def D_X10_deeperUnit_L1_D : Int → zM → Int × zM := fun sign h => D_X10_deeperUnit_G_D D_X10_unit_L1_D D_X10_condition_L1_D sign 1 h
def D_X10_atom_L0_D : zM → Int × zM := fun h => D_X10_atom_G_D D_X10_sum_L1_D 0 h
def D_X10_term_L0_D : zM → Int × zM := fun h => D_X10_term_G_D D_X10_atom_L0_D 0 h
def D_X10_sum_L0_D : zM → Int × zM := fun h => D_X10_sum_G_D D_X10_term_L0_D 0 h
def D_X10_unit_L0_D : Int → zM → Int × zM := fun begun h => D_X10_unit_G_D D_X10_sum_L0_D D_X10_deeperUnit_L1_D begun 0 h
def D_X10_truths_L0_D : Int → zM → Int × zM := fun begun h => D_X10_truths_G_D D_X10_unit_L0_D begun 0 h
def D_X10_condition_L0_D : Int → zM → Int × zM := fun begun h => D_X10_condition_G_D D_X10_truths_L0_D begun 0 h
def D_X10_clause_D (h : zM) : Int × zM :=
  zl2 (D_X8_takes_D 121 h) fun r4 h4 =>
  if r4 = 0 then
    (0, h4)
  else
    zl2 (D_X8_takes_D 58 h4) fun r10 h10 =>
    if r10 = 0 then
      (0, h10)
    else
      zl2 (D_X8_next_D h10) fun r16 h16 =>
      if r16 = 33 then
        zl2 (D_X8_next_D h16) fun r23 h23 =>
        zl2 (D_X10_condition_L0_D 0 h23) fun r30 h30 =>
        if r30 = 0 then
          (0, h30)
        else
          zl2 (D_X8_takes_D 63 h30) fun r36 h36 =>
          if r36 = 0 then
            (0, h36)
          else
            zl2 (D_X10_emit_D 2 0 h36) fun r42 h42 =>
            zl2 (D_X10_sum_L0_D h42) fun r47 h47 =>
            if r47 = 0 then
              (0, h47)
            else
              zl2 (D_X10_emit_D 3 0 h47) fun r53 h53 =>
              if 240 ≤ (h36 10 2) then
                (1, h53)
              else
                zlt (zm_up h53 11 ((h36 10 2).toNat) (zb_or 32768 (h53 10 2))) fun h61 =>
                (1, h61)
      else
        if r16 = 40 then
          zl2 (D_X8_next_D h16) fun r68 h68 =>
          zl2 (D_X10_condition_L0_D 0 h68) fun r75 h75 =>
          if r75 = 0 then
            (0, h75)
          else
            zl2 (D_X8_takes_D 63 h75) fun r81 h81 =>
            if r81 = 0 then
              (0, h81)
            else
              zl2 (D_X10_emit_D 2 0 h81) fun r87 h87 =>
              zl2 (D_X10_sum_L0_D h87) fun r92 h92 =>
              if r92 = 0 then
                (0, h92)
              else
                zl2 (D_X10_emit_D 3 0 h92) fun r98 h98 =>
                if 240 ≤ (h81 10 2) then
                  (1, h98)
                else
                  zlt (zm_up h98 11 ((h81 10 2).toNat) (zb_or 32768 (h98 10 2))) fun h106 =>
                  (1, h106)
        else
          zl2 (D_X10_sum_L0_D h16) fun r112 h112 =>
          if r112 = 0 then
            (0, h112)
          else
            zl2 (D_X8_next_D h112) fun r118 h118 =>
            if r118 = 61 then
              zl2 (D_X10_condition_L0_D 1 h118) fun r126 h126 =>
              if r126 = 0 then
                (0, h126)
              else
                zl2 (D_X8_takes_D 63 h126) fun r132 h132 =>
                if r132 = 0 then
                  (0, h132)
                else
                  zl2 (D_X10_emit_D 2 0 h132) fun r138 h138 =>
                  zl2 (D_X10_sum_L0_D h138) fun r143 h143 =>
                  if r143 = 0 then
                    (0, h143)
                  else
                    zl2 (D_X10_emit_D 3 0 h143) fun r149 h149 =>
                    if 240 ≤ (h132 10 2) then
                      (1, h149)
                    else
                      zlt (zm_up h149 11 ((h132 10 2).toNat) (zb_or 32768 (h149 10 2))) fun h157 =>
                      (1, h157)
            else
              if r118 = 60 then
                zl2 (D_X10_condition_L0_D 1 h118) fun r164 h164 =>
                if r164 = 0 then
                  (0, h164)
                else
                  zl2 (D_X8_takes_D 63 h164) fun r170 h170 =>
                  if r170 = 0 then
                    (0, h170)
                  else
                    zl2 (D_X10_emit_D 2 0 h170) fun r176 h176 =>
                    zl2 (D_X10_sum_L0_D h176) fun r181 h181 =>
                    if r181 = 0 then
                      (0, h181)
                    else
                      zl2 (D_X10_emit_D 3 0 h181) fun r187 h187 =>
                      if 240 ≤ (h170 10 2) then
                        (1, h187)
                      else
                        zlt (zm_up h187 11 ((h170 10 2).toNat) (zb_or 32768 (h187 10 2))) fun h195 =>
                        (1, h195)
              else
                if r118 = 62 then
                  zl2 (D_X10_condition_L0_D 1 h118) fun r202 h202 =>
                  if r202 = 0 then
                    (0, h202)
                  else
                    zl2 (D_X8_takes_D 63 h202) fun r208 h208 =>
                    if r208 = 0 then
                      (0, h208)
                    else
                      zl2 (D_X10_emit_D 2 0 h208) fun r214 h214 =>
                      zl2 (D_X10_sum_L0_D h214) fun r219 h219 =>
                      if r219 = 0 then
                        (0, h219)
                      else
                        zl2 (D_X10_emit_D 3 0 h219) fun r225 h225 =>
                        if 240 ≤ (h208 10 2) then
                          (1, h225)
                        else
                          zlt (zm_up h225 11 ((h208 10 2).toNat) (zb_or 32768 (h225 10 2))) fun h233 =>
                          (1, h233)
                else
                  zl2 (D_X10_emit_D 3 0 h118) fun r238 h238 =>
                  (r238, h238)

def DL_X10_read_D_20 (KD9 : Int → zM → Int × zM) : Nat → Int → zM → Int × zM
  | 0, x1, h => KD9 x1 h
  | k8 + 1, x1, h =>
    if 240 ≤ x1 then
      KD9 x1 h
    else
      zl2 (D_X10_clause_D h) fun r5 h5 =>
      if r5 = 0 then
        ((h5 1 2), h5)
      else
        zl2 (D_X8_takes_D 59 h5) fun r11 h11 =>
        if r11 = 0 then
          KD9 x1 h11
        else
          DL_X10_read_D_20 KD9 k8 (x1 + 1) h11

def D_X10_read_D (h : zM) : Int × zM :=
  zlt (zm_up h 10 2 0) fun h20 =>
  zlt (zm_up h20 10 3 0) fun h24 =>
  zlt (zm_up h24 1 2 0) fun h29 =>
  DL_X10_read_D_20 (fun x1_33 h_33 =>
      zl2 (D_X8_next_D h_33) fun r37 h37 =>
      if r37 = (-1) then
        ((-1), h37)
      else
        ((h37 1 2), h37)
    ) ((240 - (0 : Int)).toNat + 1) 0 h29

def D_X12_within_D (a : Int) : Int :=
  (max (-1000000) (min 1000000 a))

def D_X12_isSign_D (a : Int) : Int :=
  if a = 61 then
    1
  else
    if a = 60 then
      1
    else
      if a = 62 then
        1
      else
        0

def D_X12_isDigit_D (h : zM) : Int :=
  if (h 79 9) ≤ (h 79 10) then
    0
  else
    zlt ((h 79 5).toNat) fun X4 =>
    if (h X4 (((h 79 8) + (h 79 10)).toNat)) < 48 then
      0
    else
      if 57 < (h X4 (((h 79 8) + (h 79 10)).toNat)) then
        0
      else
        1

def D_X12_here_D (h : zM) : Int :=
  if (h 79 9) ≤ (h 79 10) then
    (-1)
  else
    zlt ((h 79 5).toNat) fun X4 =>
    (zb_and (h X4 (((h 79 8) + (h 79 10)).toNat)) 255)

def DL_X12_look_D_0 (KD9 : zM → Int × zM) : Nat → zM → Int × zM
  | 0, h => KD9  h
  | k8 + 1, h =>
    if (h 79 9) ≤ (h 79 10) then
      KD9  h
    else
      zlt ((h 79 5).toNat) fun X6 =>
      if (h X6 (((h 79 8) + (h 79 10)).toNat)) = 32 then
        zlt (zm_up h 79 10 ((h 79 10) + 1)) fun h11 =>
        DL_X12_look_D_0 KD9 k8  h11
      else
        KD9  h

def D_X12_look_D (h : zM) : Int × zM :=
  DL_X12_look_D_0 (fun h_21 =>
      if (h_21 79 9) ≤ (h_21 79 10) then
        ((-1), h_21)
      else
        zlt ((h_21 79 5).toNat) fun X27 =>
        ((zb_and (h_21 X27 (((h_21 79 8) + (h_21 79 10)).toNat)) 255), h_21)
    ) ((241 - h 79 10).toNat + 1)  h

def D_X12_fails_D (h : zM) : Int × zM :=
  if (h 79 11) = (-1) then
    zlt (zm_up h 79 11 (h 79 10)) fun h6 =>
    (0, h6)
  else
    (0, h)

def D_X12_goesIn_D (h : zM) : Int × zM :=
  if (h 79 12) = 6 then
    zl2 (D_X12_fails_D h) fun r6 h6 =>
    (0, h6)
  else
    zlt (zm_up h 79 12 ((h 79 12) + 1)) fun h12 =>
    zlt (zm_up h12 79 10 ((h12 79 10) + 1)) fun h18 =>
    (1, h18)

def D_X12_takes_D (there : Int) (h : zM) : Int × zM :=
  if (h 79 11) = (-1) then
    zl2 (D_X12_look_D h) fun r6 h6 =>
    if r6 = there then
      zlt (zm_up h6 79 10 ((h6 79 10) + 1)) fun h13 =>
      (1, h13)
    else
      zl2 (D_X12_fails_D h6) fun r18 h18 =>
      (0, h18)
  else
    zl2 (D_X12_fails_D h) fun r24 h24 =>
    (0, h24)

def DL_X12_atom_G_D_90 (F_sum : zM → Int × zM) (x1 : Int) (KD9 : Int → Int → zM → Int × zM) : Nat → Int → Int → zM → Int × zM
  | 0, x2, x3, h => KD9 x2 x3 h
  | k8 + 1, x2, x3, h =>
    zlt (D_X12_isDigit_D h) fun r5 =>
    if r5 = 0 then
      KD9 x2 x3 h
    else
      if (h 79 11) = (-1) then
        if x3 = 4 then
          zl2 (D_X12_fails_D h) fun r9 h9 =>
          (0, h9)
        else
          zlt ((h 79 5).toNat) fun X15 =>
          zlt (zm_up h 79 10 ((h 79 10) + 1)) fun h21 =>
          DL_X12_atom_G_D_90 F_sum x1 KD9 k8 (zw (((10 * x2) + (h X15 (((h 79 8) + (h 79 10)).toNat))) - 48)) (x3 + 1) h21
      else
        KD9 x2 x3 h

def D_X12_atom_G_D (F_sum : zM → Int × zM) (h : zM) : Int × zM :=
  zl2 (D_X12_look_D h) fun r31 h31 =>
  zlt (if zix zLs3 0 r31 ≠ -1 then (1 : Int) else 0) fun r37 =>
  if r37 = 0 then
    if r31 = 91 then
      zl2 (D_X12_goesIn_D h31) fun r40 h40 =>
      if r40 = 0 then
        (0, h40)
      else
        zl2 (F_sum h40) fun r47 h47 =>
        zl2 (D_X12_takes_D 93 h47) fun r53 h53 =>
        if r53 = 0 then
          (0, h53)
        else
          zlt (zm_up h53 79 12 ((h53 79 12) - 1)) fun h60 =>
          (r47, h60)
    else
      zlt (D_X12_isDigit_D h31) fun r65 =>
      if r65 = 0 then
        zl2 (D_X12_fails_D h31) fun r67 h67 =>
        DL_X12_atom_G_D_90 F_sum r31 (fun x2_73 x3_73 h_73 =>
            (x2_73, h_73)
          ) ((4 - (0 : Int)).toNat + 1) 0 0 h67
      else
        DL_X12_atom_G_D_90 F_sum r31 (fun x2_78 x3_78 h_78 =>
            (x2_78, h_78)
          ) ((4 - (0 : Int)).toNat + 1) 0 0 h31
  else
    zlt (zm_up h31 79 10 ((h31 79 10) + 1)) fun h83 =>
    ((h83 83 r31.toNat), h83)

def DL_X12_term_G_D_5 (F_atom : zM → Int × zM) (KD9 : Int → zM → Int × zM) : Nat → Int → zM → Int × zM
  | 0, x1, h => KD9 x1 h
  | k8 + 1, x1, h =>
    if (h 79 11) = (-1) then
      zl2 (D_X12_look_D h) fun r6 h6 =>
      if r6 = 42 then
        zl2 (D_X12_look_D h6) fun r13 h13 =>
        if r13 = 42 then
          zlt (zm_up h13 79 10 ((h13 79 10) + 1)) fun h20 =>
          zl2 (F_atom h20) fun r25 h25 =>
          zlt (D_X12_within_D (x1 * r25)) fun r33 =>
          DL_X12_term_G_D_5 F_atom KD9 k8 r33 h25
        else
          zlt (zm_up h13 79 10 ((h13 79 10) + 1)) fun h34 =>
          zl2 (F_atom h34) fun r39 h39 =>
          if r39 = 0 then
            zlt (D_X12_within_D 0) fun r47 =>
            DL_X12_term_G_D_5 F_atom KD9 k8 r47 h39
          else
            zlt (D_X12_within_D (Int.tdiv x1 r39)) fun r50 =>
            DL_X12_term_G_D_5 F_atom KD9 k8 r50 h39
      else
        zl2 (D_X12_look_D h6) fun r51 h51 =>
        if r51 = 47 then
          zl2 (D_X12_look_D h51) fun r58 h58 =>
          if r58 = 42 then
            zlt (zm_up h58 79 10 ((h58 79 10) + 1)) fun h65 =>
            zl2 (F_atom h65) fun r70 h70 =>
            zlt (D_X12_within_D (x1 * r70)) fun r78 =>
            DL_X12_term_G_D_5 F_atom KD9 k8 r78 h70
          else
            zlt (zm_up h58 79 10 ((h58 79 10) + 1)) fun h79 =>
            zl2 (F_atom h79) fun r84 h84 =>
            if r84 = 0 then
              zlt (D_X12_within_D 0) fun r92 =>
              DL_X12_term_G_D_5 F_atom KD9 k8 r92 h84
            else
              zlt (D_X12_within_D (Int.tdiv x1 r84)) fun r95 =>
              DL_X12_term_G_D_5 F_atom KD9 k8 r95 h84
        else
          KD9 x1 h51
    else
      KD9 x1 h

def D_X12_term_G_D (F_atom : zM → Int × zM) (h : zM) : Int × zM :=
  zl2 (F_atom h) fun r100 h100 =>
  DL_X12_term_G_D_5 F_atom (fun x1_106 h_106 =>
      (x1_106, h_106)
    ) ((241 - h100 79 10).toNat + 1) r100 h100

def DL_X12_sum_G_D_5 (F_term : zM → Int × zM) (KD9 : Int → zM → Int × zM) : Nat → Int → zM → Int × zM
  | 0, x1, h => KD9 x1 h
  | k8 + 1, x1, h =>
    if (h 79 11) = (-1) then
      zl2 (D_X12_look_D h) fun r6 h6 =>
      if r6 = 43 then
        zl2 (D_X12_look_D h6) fun r13 h13 =>
        if r13 = 43 then
          zlt (zm_up h13 79 10 ((h13 79 10) + 1)) fun h20 =>
          zl2 (F_term h20) fun r25 h25 =>
          zlt (D_X12_within_D (x1 + r25)) fun r32 =>
          DL_X12_sum_G_D_5 F_term KD9 k8 r32 h25
        else
          zlt (zm_up h13 79 10 ((h13 79 10) + 1)) fun h33 =>
          zl2 (F_term h33) fun r38 h38 =>
          zlt (D_X12_within_D (x1 - r38)) fun r45 =>
          DL_X12_sum_G_D_5 F_term KD9 k8 r45 h38
      else
        zl2 (D_X12_look_D h6) fun r46 h46 =>
        if r46 = 45 then
          zl2 (D_X12_look_D h46) fun r53 h53 =>
          if r53 = 43 then
            zlt (zm_up h53 79 10 ((h53 79 10) + 1)) fun h60 =>
            zl2 (F_term h60) fun r65 h65 =>
            zlt (D_X12_within_D (x1 + r65)) fun r72 =>
            DL_X12_sum_G_D_5 F_term KD9 k8 r72 h65
          else
            zlt (zm_up h53 79 10 ((h53 79 10) + 1)) fun h73 =>
            zl2 (F_term h73) fun r78 h78 =>
            zlt (D_X12_within_D (x1 - r78)) fun r85 =>
            DL_X12_sum_G_D_5 F_term KD9 k8 r85 h78
        else
          KD9 x1 h46
    else
      KD9 x1 h

def D_X12_sum_G_D (F_term : zM → Int × zM) (h : zM) : Int × zM :=
  zl2 (F_term h) fun r90 h90 =>
  DL_X12_sum_G_D_5 F_term (fun x1_96 h_96 =>
      (x1_96, h_96)
    ) ((241 - h90 79 10).toNat + 1) r90 h90

def D_X12_compares_G_D (F_sum : zM → Int × zM) (has : Int) (read : Int) (h : zM) : Int × zM :=
  if has = 0 then
    zl2 (F_sum h) fun r6 h6 =>
    if (h6 79 11) = (-1) then
      zl2 (D_X12_look_D h6) fun r13 h13 =>
      zlt (D_X12_isSign_D r13) fun r19 =>
      if r19 = 0 then
        zl2 (D_X12_fails_D h13) fun r21 h21 =>
        (0, h21)
      else
        zlt (zm_up h13 79 10 ((h13 79 10) + 1)) fun h27 =>
        zl2 (F_sum h27) fun r32 h32 =>
        if r13 = 61 then
          if r6 = r32 then
            (1, h32)
          else
            (0, h32)
        else
          if r13 = 60 then
            if r32 ≤ r6 then
              (0, h32)
            else
              (1, h32)
          else
            if r6 ≤ r32 then
              (0, h32)
            else
              (1, h32)
    else
      (0, h6)
  else
    if (h 79 11) = (-1) then
      zl2 (D_X12_look_D h) fun r44 h44 =>
      zlt (D_X12_isSign_D r44) fun r50 =>
      if r50 = 0 then
        zl2 (D_X12_fails_D h44) fun r52 h52 =>
        (0, h52)
      else
        zlt (zm_up h44 79 10 ((h44 79 10) + 1)) fun h58 =>
        zl2 (F_sum h58) fun r63 h63 =>
        if r44 = 61 then
          if read = r63 then
            (1, h63)
          else
            (0, h63)
        else
          if r44 = 60 then
            if r63 ≤ read then
              (0, h63)
            else
              (1, h63)
          else
            if read ≤ r63 then
              (0, h63)
            else
              (1, h63)
    else
      (0, h)

def D_X12_unit_G_D (F_compares : Int → Int → zM → Int × zM) (F_unit : zM → Int × zM) (F_condition : Int → Int → zM → Int × zM) (h : zM) : Int × zM :=
  zl2 (D_X12_look_D h) fun r5 h5 =>
  if r5 = 33 then
    zl2 (D_X12_goesIn_D h5) fun r12 h12 =>
    if r12 = 0 then
      (0, h12)
    else
      zl2 (F_unit h12) fun r19 h19 =>
      zlt (zm_up h19 79 12 ((h19 79 12) - 1)) fun h25 =>
      if r19 = 0 then
        (1, h25)
      else
        (0, h25)
  else
    if r5 = 40 then
      zl2 (D_X12_goesIn_D h5) fun r40 h40 =>
      if r40 = 0 then
        (0, h40)
      else
        zl2 (F_condition 0 0 h40) fun r47 h47 =>
        zl2 (D_X12_takes_D 41 h47) fun r53 h53 =>
        if r53 = 0 then
          (0, h53)
        else
          zlt (zm_up h53 79 12 ((h53 79 12) - 1)) fun h60 =>
          (r47, h60)
    else
      zl2 (F_compares 0 0 h5) fun r65 h65 =>
      (r65, h65)

def DL_X12_part_G_D_18 (F_compares : Int → Int → zM → Int × zM) (F_unit : zM → Int × zM) (has : Int) (read : Int) (KD9 : Int → zM → Int × zM) : Nat → Int → zM → Int × zM
  | 0, x3, h => KD9 x3 h
  | k8 + 1, x3, h =>
    if (h 79 11) = (-1) then
      zl2 (D_X12_look_D h) fun r6 h6 =>
      if r6 = 38 then
        zlt (zm_up h6 79 10 ((h6 79 10) + 1)) fun h13 =>
        zl2 (F_unit h13) fun r18 h18 =>
        if x3 = 0 then
          DL_X12_part_G_D_18 F_compares F_unit has read KD9 k8 0 h18
        else
          if r18 = 0 then
            DL_X12_part_G_D_18 F_compares F_unit has read KD9 k8 0 h18
          else
            DL_X12_part_G_D_18 F_compares F_unit has read KD9 k8 1 h18
      else
        KD9 x3 h6
    else
      KD9 x3 h

def D_X12_part_G_D (F_compares : Int → Int → zM → Int × zM) (F_unit : zM → Int × zM) (has : Int) (read : Int) (h : zM) : Int × zM :=
  if has = 0 then
    zl2 (F_unit h) fun r31 h31 =>
    DL_X12_part_G_D_18 F_compares F_unit has read (fun x3_37 h_37 =>
        (x3_37, h_37)
      ) ((241 - h31 79 10).toNat + 1) r31 h31
  else
    zl2 (F_compares 1 read h) fun r42 h42 =>
    DL_X12_part_G_D_18 F_compares F_unit has read (fun x3_48 h_48 =>
        (x3_48, h_48)
      ) ((241 - h42 79 10).toNat + 1) r42 h42

def DL_X12_condition_G_D_7 (F_part : Int → Int → zM → Int × zM) (has : Int) (read : Int) (KD9 : Int → zM → Int × zM) : Nat → Int → zM → Int × zM
  | 0, x3, h => KD9 x3 h
  | k8 + 1, x3, h =>
    if (h 79 11) = (-1) then
      zl2 (D_X12_look_D h) fun r6 h6 =>
      if r6 = 124 then
        zlt (zm_up h6 79 10 ((h6 79 10) + 1)) fun h13 =>
        zl2 (F_part 0 0 h13) fun r18 h18 =>
        if x3 = 0 then
          if r18 = 0 then
            DL_X12_condition_G_D_7 F_part has read KD9 k8 0 h18
          else
            DL_X12_condition_G_D_7 F_part has read KD9 k8 1 h18
        else
          DL_X12_condition_G_D_7 F_part has read KD9 k8 1 h18
      else
        KD9 x3 h6
    else
      KD9 x3 h

def D_X12_condition_G_D (F_part : Int → Int → zM → Int × zM) (has : Int) (read : Int) (h : zM) : Int × zM :=
  zl2 (F_part has read h) fun r30 h30 =>
  DL_X12_condition_G_D_7 F_part has read (fun x3_36 h_36 =>
      (x3_36, h_36)
    ) ((241 - h30 79 10).toNat + 1) r30 h30

def D_X12_atom_L6_D : zM → Int × zM := fun h => D_X12_atom_G_D (fun h => (0, h)) h
def D_X12_term_L6_D : zM → Int × zM := fun h => D_X12_term_G_D D_X12_atom_L6_D h
def D_X12_sum_L6_D : zM → Int × zM := fun h => D_X12_sum_G_D D_X12_term_L6_D h
def D_X12_compares_L6_D : Int → Int → zM → Int × zM := fun has read h => D_X12_compares_G_D D_X12_sum_L6_D has read h
def D_X12_unit_L6_D : zM → Int × zM := fun h => D_X12_unit_G_D D_X12_compares_L6_D (fun h => (0, h)) (fun _ _ h => (0, h)) h
def D_X12_part_L6_D : Int → Int → zM → Int × zM := fun has read h => D_X12_part_G_D D_X12_compares_L6_D D_X12_unit_L6_D has read h
def D_X12_condition_L6_D : Int → Int → zM → Int × zM := fun has read h => D_X12_condition_G_D D_X12_part_L6_D has read h
def D_X12_atom_L5_D : zM → Int × zM := fun h => D_X12_atom_G_D D_X12_sum_L6_D h
def D_X12_term_L5_D : zM → Int × zM := fun h => D_X12_term_G_D D_X12_atom_L5_D h
def D_X12_sum_L5_D : zM → Int × zM := fun h => D_X12_sum_G_D D_X12_term_L5_D h
def D_X12_compares_L5_D : Int → Int → zM → Int × zM := fun has read h => D_X12_compares_G_D D_X12_sum_L5_D has read h
def D_X12_unit_L5_D : zM → Int × zM := fun h => D_X12_unit_G_D D_X12_compares_L5_D D_X12_unit_L6_D D_X12_condition_L6_D h
def D_X12_part_L5_D : Int → Int → zM → Int × zM := fun has read h => D_X12_part_G_D D_X12_compares_L5_D D_X12_unit_L5_D has read h
def D_X12_condition_L5_D : Int → Int → zM → Int × zM := fun has read h => D_X12_condition_G_D D_X12_part_L5_D has read h
def D_X12_atom_L4_D : zM → Int × zM := fun h => D_X12_atom_G_D D_X12_sum_L5_D h
def D_X12_term_L4_D : zM → Int × zM := fun h => D_X12_term_G_D D_X12_atom_L4_D h
def D_X12_sum_L4_D : zM → Int × zM := fun h => D_X12_sum_G_D D_X12_term_L4_D h
def D_X12_compares_L4_D : Int → Int → zM → Int × zM := fun has read h => D_X12_compares_G_D D_X12_sum_L4_D has read h
def D_X12_unit_L4_D : zM → Int × zM := fun h => D_X12_unit_G_D D_X12_compares_L4_D D_X12_unit_L5_D D_X12_condition_L5_D h
def D_X12_part_L4_D : Int → Int → zM → Int × zM := fun has read h => D_X12_part_G_D D_X12_compares_L4_D D_X12_unit_L4_D has read h
def D_X12_condition_L4_D : Int → Int → zM → Int × zM := fun has read h => D_X12_condition_G_D D_X12_part_L4_D has read h
def D_X12_atom_L3_D : zM → Int × zM := fun h => D_X12_atom_G_D D_X12_sum_L4_D h
def D_X12_term_L3_D : zM → Int × zM := fun h => D_X12_term_G_D D_X12_atom_L3_D h
def D_X12_sum_L3_D : zM → Int × zM := fun h => D_X12_sum_G_D D_X12_term_L3_D h
def D_X12_compares_L3_D : Int → Int → zM → Int × zM := fun has read h => D_X12_compares_G_D D_X12_sum_L3_D has read h
def D_X12_unit_L3_D : zM → Int × zM := fun h => D_X12_unit_G_D D_X12_compares_L3_D D_X12_unit_L4_D D_X12_condition_L4_D h
def D_X12_part_L3_D : Int → Int → zM → Int × zM := fun has read h => D_X12_part_G_D D_X12_compares_L3_D D_X12_unit_L3_D has read h
def D_X12_condition_L3_D : Int → Int → zM → Int × zM := fun has read h => D_X12_condition_G_D D_X12_part_L3_D has read h
def D_X12_atom_L2_D : zM → Int × zM := fun h => D_X12_atom_G_D D_X12_sum_L3_D h
def D_X12_term_L2_D : zM → Int × zM := fun h => D_X12_term_G_D D_X12_atom_L2_D h
def D_X12_sum_L2_D : zM → Int × zM := fun h => D_X12_sum_G_D D_X12_term_L2_D h
def D_X12_compares_L2_D : Int → Int → zM → Int × zM := fun has read h => D_X12_compares_G_D D_X12_sum_L2_D has read h
def D_X12_unit_L2_D : zM → Int × zM := fun h => D_X12_unit_G_D D_X12_compares_L2_D D_X12_unit_L3_D D_X12_condition_L3_D h
def D_X12_part_L2_D : Int → Int → zM → Int × zM := fun has read h => D_X12_part_G_D D_X12_compares_L2_D D_X12_unit_L2_D has read h
def D_X12_condition_L2_D : Int → Int → zM → Int × zM := fun has read h => D_X12_condition_G_D D_X12_part_L2_D has read h
def D_X12_atom_L1_D : zM → Int × zM := fun h => D_X12_atom_G_D D_X12_sum_L2_D h
def D_X12_term_L1_D : zM → Int × zM := fun h => D_X12_term_G_D D_X12_atom_L1_D h
def D_X12_sum_L1_D : zM → Int × zM := fun h => D_X12_sum_G_D D_X12_term_L1_D h
def D_X12_compares_L1_D : Int → Int → zM → Int × zM := fun has read h => D_X12_compares_G_D D_X12_sum_L1_D has read h
def D_X12_unit_L1_D : zM → Int × zM := fun h => D_X12_unit_G_D D_X12_compares_L1_D D_X12_unit_L2_D D_X12_condition_L2_D h
def D_X12_part_L1_D : Int → Int → zM → Int × zM := fun has read h => D_X12_part_G_D D_X12_compares_L1_D D_X12_unit_L1_D has read h
def D_X12_condition_L1_D : Int → Int → zM → Int × zM := fun has read h => D_X12_condition_G_D D_X12_part_L1_D has read h
def D_X12_atom_L0_D : zM → Int × zM := fun h => D_X12_atom_G_D D_X12_sum_L1_D h
def D_X12_term_L0_D : zM → Int × zM := fun h => D_X12_term_G_D D_X12_atom_L0_D h
def D_X12_sum_L0_D : zM → Int × zM := fun h => D_X12_sum_G_D D_X12_term_L0_D h
def D_X12_compares_L0_D : Int → Int → zM → Int × zM := fun has read h => D_X12_compares_G_D D_X12_sum_L0_D has read h
def D_X12_unit_L0_D : zM → Int × zM := fun h => D_X12_unit_G_D D_X12_compares_L0_D D_X12_unit_L1_D D_X12_condition_L1_D h
def D_X12_part_L0_D : Int → Int → zM → Int × zM := fun has read h => D_X12_part_G_D D_X12_compares_L0_D D_X12_unit_L0_D has read h
def D_X12_condition_L0_D : Int → Int → zM → Int × zM := fun has read h => D_X12_condition_G_D D_X12_part_L0_D has read h
def D_X12_clause_D (h : zM) : zM :=
  zl2 (D_X12_look_D h) fun r5 h5 =>
  zlt (if zix zLs5 0 r5 ≠ -1 then (1 : Int) else 0) fun r11 =>
  if r11 = 0 then
    zl2 (D_X12_fails_D h5) fun r13 h13 =>
    h13
  else
    zlt (zm_up h5 79 10 ((h5 79 10) + 1)) fun h19 =>
    zl2 (D_X12_takes_D 58 h19) fun r24 h24 =>
    if r24 = 0 then
      h24
    else
      zl2 (D_X12_look_D h24) fun r31 h31 =>
      if r31 = 33 then
        zl2 (D_X12_condition_L0_D 0 0 h31) fun r38 h38 =>
        zl2 (D_X12_takes_D 63 h38) fun r44 h44 =>
        if r44 = 0 then
          h44
        else
          zl2 (D_X12_sum_L0_D h44) fun r51 h51 =>
          if (h51 79 11) = (-1) then
            if (h51 79 17) = 0 then
              if r5 = (h51 79 13) then
                if r38 = 0 then
                  h51
                else
                  zlt (zm_up h51 79 17 1) fun h63 =>
                  zlt (zm_up h63 79 14 r51) fun h70 =>
                  h70
              else
                h51
            else
              h51
          else
            h51
      else
        if r31 = 40 then
          zl2 (D_X12_condition_L0_D 0 0 h31) fun r78 h78 =>
          zl2 (D_X12_takes_D 63 h78) fun r84 h84 =>
          if r84 = 0 then
            h84
          else
            zl2 (D_X12_sum_L0_D h84) fun r91 h91 =>
            if (h91 79 11) = (-1) then
              if (h91 79 17) = 0 then
                if r5 = (h91 79 13) then
                  if r78 = 0 then
                    h91
                  else
                    zlt (zm_up h91 79 17 1) fun h103 =>
                    zlt (zm_up h103 79 14 r91) fun h110 =>
                    h110
                else
                  h91
              else
                h91
            else
              h91
        else
          zl2 (D_X12_sum_L0_D h31) fun r117 h117 =>
          if (h117 79 11) = (-1) then
            zl2 (D_X12_look_D h117) fun r124 h124 =>
            zlt (D_X12_isSign_D r124) fun r130 =>
            if r130 = 0 then
              if (h124 79 11) = (-1) then
                if (h124 79 17) = 0 then
                  if r5 = (h124 79 13) then
                    zlt (zm_up h124 79 17 1) fun h138 =>
                    zlt (zm_up h138 79 14 r117) fun h145 =>
                    h145
                  else
                    h124
                else
                  h124
              else
                h124
            else
              zl2 (D_X12_condition_L0_D 1 r117 h124) fun r152 h152 =>
              zl2 (D_X12_takes_D 63 h152) fun r158 h158 =>
              if r158 = 0 then
                h158
              else
                zl2 (D_X12_sum_L0_D h158) fun r165 h165 =>
                if (h165 79 11) = (-1) then
                  if (h165 79 17) = 0 then
                    if r5 = (h165 79 13) then
                      if r152 = 0 then
                        h165
                      else
                        zlt (zm_up h165 79 17 1) fun h177 =>
                        zlt (zm_up h177 79 14 r165) fun h184 =>
                        h184
                    else
                      h165
                  else
                    h165
                else
                  h165
          else
            if (h117 79 11) = (-1) then
              if (h117 79 17) = 0 then
                if r5 = (h117 79 13) then
                  zlt (zm_up h117 79 17 1) fun h197 =>
                  zlt (zm_up h197 79 14 r117) fun h204 =>
                  h204
                else
                  h117
              else
                h117
            else
              h117

def D_X12_starts_81_D (fr : Int) (many : Int) (h : zM) : zM :=
  zlt (zm_up h 79 5 (81 : Int)) fun h5 =>
  zlt (zm_up h5 79 8 fr) fun h11 =>
  zlt (zm_up h11 79 9 many) fun h17 =>
  zlt (zm_up h17 79 10 0) fun h22 =>
  zlt (zm_up h22 79 11 (-1)) fun h27 =>
  h27

def DL_X12_goThrough_81_D_32 (fr : Int) (many : Int) (KD9 : zM → zM) : Nat → zM → zM
  | 0, h => KD9  h
  | k8 + 1, h =>
    if (h 79 11) = (-1) then
      zl2 (D_X12_look_D h) fun r6 h6 =>
      if r6 = 59 then
        zlt (zm_up h6 79 10 ((h6 79 10) + 1)) fun h13 =>
        zlt (D_X12_clause_D h13) fun h18 =>
        DL_X12_goThrough_81_D_32 fr many KD9 k8  h18
      else
        KD9  h6
    else
      KD9  h

def D_X12_goThrough_81_D (fr : Int) (many : Int) (h : zM) : zM :=
  zlt (D_X12_starts_81_D fr many h) fun h28 =>
  zlt (zm_up h28 79 13 121) fun h34 =>
  zlt (zm_up h34 79 12 0) fun h40 =>
  zlt (zm_up h40 79 17 0) fun h45 =>
  zlt (zm_up h45 79 14 0) fun h51 =>
  zlt (D_X12_clause_D h51) fun h57 =>
  DL_X12_goThrough_81_D_32 fr many (fun h_63 =>
      if (h_63 79 11) = (-1) then
        zl2 (D_X12_look_D h_63) fun r69 h69 =>
        if r69 = (-1) then
          h69
        else
          zl2 (D_X12_fails_D h69) fun r76 h76 =>
          h76
      else
        h_63
    ) ((241 - h57 79 10).toNat + 1)  h57

