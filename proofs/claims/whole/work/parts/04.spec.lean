def k_poke (σ : St) (a1 : Int32) (a2 : Int32) : St × Int32 :=
  bd (up2 σ 1 (ix (a1 &&& 255)) (a2 &&& 65535)) fun σ1 =>
  (σ1, (σ 1 (ix (a1 &&& 255))))
def k_fill_11 (σ : St) : St × Int32 :=
  (σ, 0)
def k_fill_16_4 (σ : St) (x1 : Int32) (x2 : Int64) : St × Int32 :=
  (σ, 1)
def k_fill_16_3 (σ : St) (x1 : Int32) (x2 : Int64) : St × Int32 :=
  bd (up2 σ 1 (ix (x1 + 3)) (((x2.toUInt64 >>> (((16 * 3) : Int32).toInt64.toUInt64 &&& Int64.toUInt64 63)).toInt64 : Int64).toInt32 &&& 65535)) fun σ10 =>
  k_fill_16_4 σ10 x1 x2
def k_fill_16_2 (σ : St) (x1 : Int32) (x2 : Int64) : St × Int32 :=
  bd (up2 σ 1 (ix (x1 + 2)) (((x2.toUInt64 >>> (((16 * 2) : Int32).toInt64.toUInt64 &&& Int64.toUInt64 63)).toInt64 : Int64).toInt32 &&& 65535)) fun σ8 =>
  k_fill_16_3 σ8 x1 x2
def k_fill_16_1 (σ : St) (x1 : Int32) (x2 : Int64) : St × Int32 :=
  bd (up2 σ 1 (ix (x1 + 1)) (((x2.toUInt64 >>> (((16 * 1) : Int32).toInt64.toUInt64 &&& Int64.toUInt64 63)).toInt64 : Int64).toInt32 &&& 65535)) fun σ6 =>
  k_fill_16_2 σ6 x1 x2
def k_fill_16_0 (σ : St) (x1 : Int32) (x2 : Int64) : St × Int32 :=
  bd (up2 σ 1 (ix (x1 + 0)) (((x2.toUInt64 >>> (((16 * 0) : Int32).toInt64.toUInt64 &&& Int64.toUInt64 63)).toInt64 : Int64).toInt32 &&& 65535)) fun σ4 =>
  k_fill_16_1 σ4 x1 x2
def k_fill (σ : St) (a1 : Int32) (a2 : Int64) : St × Int32 :=
  if a1 < 0 then
    k_fill_11 σ
  else
    if a1 ≤ 252 then
      k_fill_16_0 σ a1 a2
    else
      k_fill_11 σ
def k_isBase_15 (σ : St) (y0 : Int32) : St × Int32 :=
  (σ, y0)
def k_isBase_14 (σ : St) : St × Int32 :=
  k_isBase_15 σ 0
def k_isBase (σ : St) (a0 : Int32) : St × Int32 :=
  if a0 < 0 then
    k_isBase_14 σ
  else
    if 31 < a0 then
      k_isBase_14 σ
    else
      k_isBase_15 σ 1
def k_settings_25 (σ : St) : St × Int32 :=
  (σ, 0)
def k_settings (σ : St) (a1 : Int32) (a2 : Int32) (a3 : Int32) (a4 : Int32) : St × Int32 :=
  if a2 < 0 then
    k_settings_25 σ
  else
    if 15 < a2 then
      k_settings_25 σ
    else
      bd2 (k_isBase σ a3) fun σ3 v4 =>
      if v4 = 0 then
        k_settings_25 σ3
      else
        bd2 (k_isBase σ3 a4) fun σ6 v7 =>
        if v7 = 0 then
          k_settings_25 σ6
        else
          bd (up2 σ6 0 7 a1) fun σ9 =>
          bd (up2 σ9 0 8 a2) fun σ10 =>
          bd (up2 σ10 0 9 a3) fun σ11 =>
          bd (up2 σ11 0 10 a4) fun σ12 =>
          (σ12, 1)
def k_isAddress_16 (σ : St) (y0 : Int32) : St × Int32 :=
  (σ, y0)
def k_isAddress_15 (σ : St) : St × Int32 :=
  k_isAddress_16 σ 0
def k_isAddress (σ : St) (a0 : Int32) : St × Int32 :=
  if a0 < 0 then
    k_isAddress_15 σ
  else
    if 256 ≤ a0 then
      k_isAddress_15 σ
    else
      k_isAddress_16 σ 1
def k_begin (σ : St) (a1 : Int32) (a2 : Int32) (a3 : Int32) (a4 : Int32) : St × Int32 :=
  bd2 (k_isAddress σ a1) fun σ1 v2 =>
  if v2 = 0 then
    (σ1, 0)
  else
    bd (up2 σ1 6 3 a1) fun σ4 =>
    bd (up2 σ4 6 5 a2) fun σ5 =>
    bd (up2 σ5 6 1 (a3 &&& 65535)) fun σ6 =>
    bd (up2 σ6 6 2 (a4 &&& 65535)) fun σ7 =>
    bd (up2 σ7 6 6 0) fun σ8 =>
    bd (up2 σ8 0 11 0) fun σ9 =>
    bd (up2 σ9 0 12 0) fun σ10 =>
    (σ10, 1)
def k_set_10 (σ : St) : St × Int32 :=
  (σ, 0)
def k_set (σ : St) (a1 : Int32) (a2 : Int32) : St × Int32 :=
  if a1 < 0 then
    k_set_10 σ
  else
    if a1 ≤ 6 then
      bd (up2 σ 8 (ix a1) (a2 &&& 65535)) fun σ3 =>
      (σ3, 1)
    else
      k_set_10 σ
def k_interrupt_11 (σ : St) : St × Int32 :=
  (σ, 0)
def k_interrupt (σ : St) (a1 : Int32) : St × Int32 :=
  if a1 < 3 then
    k_interrupt_11 σ
  else
    if a1 ≤ 6 then
      bd (up2 σ 0 12 ((σ 0 12) ||| ((1 : Int32) <<< (a1 &&& 31)))) fun σ3 =>
      (σ3, 1)
    else
      k_interrupt_11 σ
def k_word (σ : St) (a1 : Int32) : St × Int32 :=
  (σ, (σ 1 (ix (a1 &&& 255))))
def k_register_111 (σ : St) (y0 : Int32) : St × Int32 :=
  (σ, y0)
def k_register_127 (σ : St) (y0 : Int32) : St × Int32 :=
  (σ, y0)
def k_register_20 (σ : St) (x1 : Int32) : St × Int32 :=
  if x1 = 7 then
    (σ, (σ 6 3))
  else if x1 = 8 then
    (σ, (σ 6 1))
  else if x1 = 9 then
    (σ, (σ 6 2))
  else if x1 = 10 then
    if (σ 6 4) = 0 then
      k_register_111 σ 0
    else
      k_register_111 σ 1
  else if x1 = 11 then
    if (σ 6 5) = 0 then
      k_register_127 σ 0
    else
      k_register_127 σ 1
  else if x1 = 12 then
    (σ, (σ 6 6))
  else if x1 = 13 then
    (σ, (σ 0 11))
  else if x1 = 14 then
    (σ, (σ 0 12))
  else if x1 = 15 then
    (σ, (σ 0 13))
  else (σ, (-1))
def k_register (σ : St) (a1 : Int32) : St × Int32 :=
  if a1 < 0 then
    k_register_20 σ a1
  else
    if 6 < a1 then
      k_register_20 σ a1
    else
      (σ, (σ 8 (ix a1)))
def k_kind (σ : St) (a1 : Int32) : St × Int32 :=
  (σ, (σ 2 (ix (a1 &&& 255))))
def k_kindByRegions_72 (σ : St) (y0 : Int32) : St × Int32 :=
  (σ, y0)
def k_kindByRegions_7_4 (σ : St) (x1 : Int32) (x2 : Int32) (x3 : Int32) : St × Int32 :=
  if x3 = 1 then
    k_kindByRegions_72 σ x2
  else
    k_kindByRegions_72 σ 0
def k_kindByRegions_56_3 (σ : St) (x1 : Int32) (x2 : Int32) (x3 : Int32) : St × Int32 :=
  k_kindByRegions_7_4 σ x1 x2 x3
def k_kindByRegions_7_3 (σ : St) (x1 : Int32) (x2 : Int32) (x3 : Int32) : St × Int32 :=
  if (σ 5 (ix 3)) = 0 then
    k_kindByRegions_56_3 σ x1 x2 x3
  else
    if x1 < (σ 3 (ix 3)) then
      k_kindByRegions_56_3 σ x1 x2 x3
    else
      if (σ 4 (ix 3)) < x1 then
        k_kindByRegions_56_3 σ x1 x2 x3
      else
        k_kindByRegions_56_3 σ x1 (σ 5 (ix 3)) (x3 + 1)
def k_kindByRegions_56_2 (σ : St) (x1 : Int32) (x2 : Int32) (x3 : Int32) : St × Int32 :=
  k_kindByRegions_7_3 σ x1 x2 x3
def k_kindByRegions_7_2 (σ : St) (x1 : Int32) (x2 : Int32) (x3 : Int32) : St × Int32 :=
  if (σ 5 (ix 2)) = 0 then
    k_kindByRegions_56_2 σ x1 x2 x3
  else
    if x1 < (σ 3 (ix 2)) then
      k_kindByRegions_56_2 σ x1 x2 x3
    else
      if (σ 4 (ix 2)) < x1 then
        k_kindByRegions_56_2 σ x1 x2 x3
      else
        k_kindByRegions_56_2 σ x1 (σ 5 (ix 2)) (x3 + 1)
def k_kindByRegions_56_1 (σ : St) (x1 : Int32) (x2 : Int32) (x3 : Int32) : St × Int32 :=
  k_kindByRegions_7_2 σ x1 x2 x3
def k_kindByRegions_7_1 (σ : St) (x1 : Int32) (x2 : Int32) (x3 : Int32) : St × Int32 :=
  if (σ 5 (ix 1)) = 0 then
    k_kindByRegions_56_1 σ x1 x2 x3
  else
    if x1 < (σ 3 (ix 1)) then
      k_kindByRegions_56_1 σ x1 x2 x3
    else
      if (σ 4 (ix 1)) < x1 then
        k_kindByRegions_56_1 σ x1 x2 x3
      else
        k_kindByRegions_56_1 σ x1 (σ 5 (ix 1)) (x3 + 1)
def k_kindByRegions_56_0 (σ : St) (x1 : Int32) (x2 : Int32) (x3 : Int32) : St × Int32 :=
  k_kindByRegions_7_1 σ x1 x2 x3
def k_kindByRegions_7_0 (σ : St) (x1 : Int32) (x2 : Int32) (x3 : Int32) : St × Int32 :=
  if (σ 5 (ix 0)) = 0 then
    k_kindByRegions_56_0 σ x1 x2 x3
  else
    if x1 < (σ 3 (ix 0)) then
      k_kindByRegions_56_0 σ x1 x2 x3
    else
      if (σ 4 (ix 0)) < x1 then
        k_kindByRegions_56_0 σ x1 x2 x3
      else
        k_kindByRegions_56_0 σ x1 (σ 5 (ix 0)) (x3 + 1)
def k_kindByRegions (σ : St) (a1 : Int32) : St × Int32 :=
  k_kindByRegions_7_0 σ a1 0 0
def k_copy_76 (σ : St) : St :=
  bd (cp8 σ 8 9) fun σ1 =>
  bd (up2 σ1 7 1 (σ1 6 1)) fun σ2 =>
  bd (up2 σ2 7 2 (σ2 6 2)) fun σ3 =>
  bd (up2 σ3 7 3 (σ3 6 3)) fun σ4 =>
  bd (up2 σ4 7 4 (σ4 6 4)) fun σ6 =>
  bd (up2 σ6 7 5 (σ6 6 5)) fun σ8 =>
  bd (up2 σ8 7 6 (σ8 6 6)) fun σ9 =>
  σ9
def k_stack_18 (σ : St) (y0 : Int32) : St × Int32 :=
  (σ, y0)
def k_stack (σ : St) : St × Int32 :=
  if (σ 6 5) = 0 then
    k_stack_18 σ (σ 6 1)
  else
    k_stack_18 σ (σ 6 2)
def k_setStack_20 (σ : St) : St :=
  σ
def k_setStack (σ : St) (a1 : Int32) : St :=
  if (σ 6 5) = 0 then
    bd (up2 σ 6 1 a1) fun σ3 =>
    k_setStack_20 σ3
  else
    bd (up2 σ 6 2 a1) fun σ4 =>
    k_setStack_20 σ4
def k_write_45 (σ : St) : St :=
  σ
def k_write_31 (σ : St) (x2 : Int32) (x3 : Int32) : St :=
  if (σ 0 14) = 0 then
    bd (up2 σ 1 (ix x3) x2) fun σ4 =>
    k_write_45 σ4
  else
    k_write_45 σ
def k_write (σ : St) (a1 : Int32) (a2 : Int32) : St :=
  if (σ 6 5) = 0 then
    k_write_31 σ a2 (a1 &&& 255)
  else
    if (σ 2 (ix (a1 &&& 255))) = 1 then
      k_write_31 σ a2 (a1 &&& 255)
    else
      bd (up2 σ 0 14 2) fun σ6 =>
      k_write_31 σ6 a2 (a1 &&& 255)
def k_push (σ : St) (a1 : Int32) : St :=
  bd2 (k_stack σ) fun σ1 v2 =>
  bd (k_setStack σ1 ((v2 - 1) &&& 65535)) fun σ3 =>
  bd (k_write σ3 ((v2 - 1) &&& 65535) a1) fun σ4 =>
  σ4
def k_pushFrame_46_6 (σ : St) : St :=
  bd (k_push σ (1000 + (σ 6 6))) fun σ19 =>
  σ19
def k_pushFrame_46_5 (σ : St) : St :=
  bd (k_push σ (σ 8 (ix 5))) fun σ17 =>
  k_pushFrame_46_6 σ17
def k_pushFrame_46_4 (σ : St) : St :=
  bd (k_push σ (σ 8 (ix 4))) fun σ15 =>
  k_pushFrame_46_5 σ15
def k_pushFrame_46_3 (σ : St) : St :=
  bd (k_push σ (σ 8 (ix 3))) fun σ13 =>
  k_pushFrame_46_4 σ13
def k_pushFrame_46_2 (σ : St) : St :=
  bd (k_push σ (σ 8 (ix 2))) fun σ11 =>
  k_pushFrame_46_3 σ11
def k_pushFrame_46_1 (σ : St) : St :=
  bd (k_push σ (σ 8 (ix 1))) fun σ9 =>
  k_pushFrame_46_2 σ9
def k_pushFrame_46_0 (σ : St) : St :=
  bd (k_push σ (σ 8 (ix 0))) fun σ7 =>
  k_pushFrame_46_1 σ7
def k_pushFrame_27 (σ : St) (y0 : Int32) : St :=
  bd (k_push σ y0) fun σ4 =>
  bd (k_push σ4 (σ4 8 (ix 6))) fun σ5 =>
  k_pushFrame_46_0 σ5
def k_pushFrame (σ : St) : St :=
  bd (k_push σ (σ 6 3)) fun σ1 =>
  if (σ1 6 4) = 0 then
    k_pushFrame_27 σ1 0
  else
    k_pushFrame_27 σ1 1
def k_isHandledOpen_23 (σ : St) (y0 : Int32) : St × Int32 :=
  (σ, y0)
def k_isHandledOpen_22 (σ : St) : St × Int32 :=
  k_isHandledOpen_23 σ 0
def k_isHandledOpen (σ : St) (a1 : Int32) : St × Int32 :=
  if a1 < 3 then
    k_isHandledOpen_22 σ
  else
    if (((σ 0 8) >>> ((a1 - 3) &&& 31)) &&& 1) = 0 then
      k_isHandledOpen_23 σ 1
    else
      k_isHandledOpen_22 σ
def k_goTo (σ : St) (a1 : Int32) : St :=
  bd (up2 σ 6 3 (a1 &&& 255)) fun σ1 =>
  σ1
def k_clearForOpen_2_6 (σ : St) : St :=
  bd (up2 σ 6 4 0) fun σ14 =>
  σ14
def k_clearForOpen_2_5 (σ : St) : St :=
  bd (up2 σ 8 (ix 5) 0) fun σ12 =>
  k_clearForOpen_2_6 σ12
def k_clearForOpen_2_4 (σ : St) : St :=
  bd (up2 σ 8 (ix 4) 0) fun σ10 =>
  k_clearForOpen_2_5 σ10
def k_clearForOpen_2_3 (σ : St) : St :=
  bd (up2 σ 8 (ix 3) 0) fun σ8 =>
  k_clearForOpen_2_4 σ8
def k_clearForOpen_2_2 (σ : St) : St :=
  bd (up2 σ 8 (ix 2) 0) fun σ6 =>
  k_clearForOpen_2_3 σ6
def k_clearForOpen_2_1 (σ : St) : St :=
  bd (up2 σ 8 (ix 1) 0) fun σ4 =>
  k_clearForOpen_2_2 σ4
def k_clearForOpen_2_0 (σ : St) : St :=
  bd (up2 σ 8 (ix 0) 0) fun σ2 =>
  k_clearForOpen_2_1 σ2
def k_clearForOpen (σ : St) : St :=
  k_clearForOpen_2_0 σ
def k_enter_104_8 (σ : St) (x1 : Int32) (y0 : Int32) : St :=
  bd (k_goTo σ (σ 1 (ix (((8 * y0) + x1) &&& 255)))) fun σ11 =>
  bd (up2 σ11 0 13 x1) fun σ12 =>
  σ12
def k_enter_66 (σ : St) (x1 : Int32) (x2 : Int32) : St :=
  bd (up2 σ 6 5 x2) fun σ8 =>
  bd (up2 σ8 6 6 x1) fun σ9 =>
  if x2 = 0 then
    k_enter_104_8 σ9 x1 (σ9 0 9)
  else
    k_enter_104_8 σ9 x1 (σ9 0 10)
def k_enter_43_6 (σ : St) (x1 : Int32) (x2 : Int32) (y0 : Int32) (y1 : Int32) : St :=
  bd (up2 σ 8 (ix 6) (y1 + y0)) fun σ5 =>
  if (σ5 6 5) = 0 then
    if x2 = 0 then
      k_enter_66 σ5 x1 x2
    else
      bd (k_clearForOpen σ5) fun σ14 =>
      k_enter_66 σ14 x1 x2
  else
    k_enter_66 σ5 x1 x2
def k_enter (σ : St) (a1 : Int32) : St :=
  bd2 (k_isHandledOpen σ a1) fun σ1 v2 =>
  if (σ1 6 5) = 0 then
    k_enter_43_6 σ1 a1 v2 1 (65408 + (16 * (σ1 6 6)))
  else
    k_enter_43_6 σ1 a1 v2 0 (65408 + (16 * (σ1 6 6)))
def k_copy_67 (σ : St) : St :=
  bd (cp8 σ 9 8) fun σ1 =>
  bd (up2 σ1 6 1 (σ1 7 1)) fun σ2 =>
  bd (up2 σ2 6 2 (σ2 7 2)) fun σ3 =>
  bd (up2 σ3 6 3 (σ3 7 3)) fun σ4 =>
  bd (up2 σ4 6 4 (σ4 7 4)) fun σ6 =>
  bd (up2 σ6 6 5 (σ6 7 5)) fun σ8 =>
  bd (up2 σ8 6 6 (σ8 7 6)) fun σ9 =>
  σ9
def k_take_51 (σ : St) : St :=
  σ
def k_take (σ : St) (a1 : Int32) : St :=
  bd (k_copy_76 σ) fun σ1 =>
  bd (up2 σ1 0 14 0) fun σ2 =>
  bd (k_pushFrame σ2) fun σ3 =>
  if (σ3 0 14) = 0 then
    bd (k_enter σ3 a1) fun σ5 =>
    k_take_51 σ5
  else
    bd (k_copy_67 σ3) fun σ6 =>
    bd (up2 σ6 0 11 2) fun σ7 =>
    k_take_51 σ7
def k_takePending_25_7 (σ : St) (x1 : Int32) : St :=
  σ
def k_takePending_25_6 (σ : St) (x1 : Int32) : St :=
  if x1 ≤ 6 then
    σ
  else
    if (((σ 0 12) >>> ((6 : Int32) &&& 31)) &&& 1) = 0 then
      k_takePending_25_7 σ x1
    else
      bd (up2 σ 0 12 ((σ 0 12) &&& (((1 : Int32) <<< ((6 : Int32) &&& 31)) ^^^ (-1)))) fun σ11 =>
      bd (k_take σ11 6) fun σ12 =>
      σ12
def k_takePending_25_5 (σ : St) (x1 : Int32) : St :=
  if x1 ≤ 5 then
    σ
  else
    if (((σ 0 12) >>> ((5 : Int32) &&& 31)) &&& 1) = 0 then
      k_takePending_25_6 σ x1
    else
      bd (up2 σ 0 12 ((σ 0 12) &&& (((1 : Int32) <<< ((5 : Int32) &&& 31)) ^^^ (-1)))) fun σ13 =>
      bd (k_take σ13 5) fun σ14 =>
      σ14
def k_takePending_25_4 (σ : St) (x1 : Int32) : St :=
  if x1 ≤ 4 then
    σ
  else
    if (((σ 0 12) >>> ((4 : Int32) &&& 31)) &&& 1) = 0 then
      k_takePending_25_5 σ x1
    else
      bd (up2 σ 0 12 ((σ 0 12) &&& (((1 : Int32) <<< ((4 : Int32) &&& 31)) ^^^ (-1)))) fun σ15 =>
      bd (k_take σ15 4) fun σ16 =>
      σ16
def k_takePending_25_3 (σ : St) (x1 : Int32) : St :=
  if x1 ≤ 3 then
    σ
  else
    if (((σ 0 12) >>> ((3 : Int32) &&& 31)) &&& 1) = 0 then
      k_takePending_25_4 σ x1
    else
      bd (up2 σ 0 12 ((σ 0 12) &&& (((1 : Int32) <<< ((3 : Int32) &&& 31)) ^^^ (-1)))) fun σ17 =>
      bd (k_take σ17 3) fun σ18 =>
      σ18
def k_takePending_22 (σ : St) (y0 : Int32) : St :=
  k_takePending_25_3 σ y0
def k_takePending (σ : St) : St :=
  if (σ 6 6) = 0 then
    k_takePending_22 σ 7
  else
    k_takePending_22 σ (σ 6 6)
def k_fetch_107 (σ : St) (x1 : Int32) : St × Int32 :=
  (σ, x1)
def k_fetch_97 (σ : St) (x1 : Int32) (x2 : Int32) : St × Int32 :=
  if x2 = 1 then
    k_fetch_107 σ x1
  else
    bd (up2 σ 0 14 2) fun σ5 =>
    k_fetch_107 σ5 x1
def k_fetch (σ : St) : St × Int32 :=
  if (σ 6 5) = 0 then
    if (σ 2 (ix ((σ 6 3) &&& 255))) = 1 then
      bd (up2 σ 0 14 2) fun σ10 =>
      k_fetch_107 σ10 (σ 1 (ix ((σ 6 3) &&& 255)))
    else
      k_fetch_107 σ (σ 1 (ix ((σ 6 3) &&& 255)))
  else
    if (σ 2 (ix ((σ 6 3) &&& 255))) = 2 then
      if ((σ 1 (ix ((σ 6 3) &&& 255))) >>> ((12 : Int32) &&& 31)) = 10 then
        bd (up2 σ 6 5 0) fun σ7 =>
        bd (up2 σ7 8 (ix 6) ((σ7 8 (ix 6)) ||| 32768)) fun σ8 =>
        k_fetch_107 σ8 (σ 1 (ix ((σ 6 3) &&& 255)))
      else
        k_fetch_97 σ (σ 1 (ix ((σ 6 3) &&& 255))) (σ 2 (ix ((σ 6 3) &&& 255)))
    else
      k_fetch_97 σ (σ 1 (ix ((σ 6 3) &&& 255))) (σ 2 (ix ((σ 6 3) &&& 255)))
def k_answerFault_67 (σ : St) : St :=
  σ
def k_answerFault_54 (σ : St) : St :=
  bd (up2 σ 0 11 2) fun σ5 =>
  k_answerFault_67 σ5
def k_answerFault_62 (σ : St) (x1 : Int32) : St :=
  bd (k_take σ x1) fun σ7 =>
  k_answerFault_67 σ7
def k_answerFault_26 (σ : St) (y0 : Int32) : St :=
  if (σ 6 6) = 1 then
    k_answerFault_54 σ
  else
    if (σ 6 6) = 2 then
      if y0 = 2 then
        k_answerFault_54 σ
      else
        k_answerFault_62 σ y0
    else
      k_answerFault_62 σ y0
def k_answerFault (σ : St) : St :=
  bd (k_copy_67 σ) fun σ1 =>
  if (σ1 0 7) = 0 then
    k_answerFault_26 σ1 1
  else
    k_answerFault_26 σ1 (σ1 0 14)
def k_call (σ : St) (a1 : Int32) : St :=
  bd (up2 σ 8 (ix 6) (σ 6 3)) fun σ1 =>
  bd (k_goTo σ1 a1) fun σ2 =>
  σ2
def k_goOut (σ : St) (a1 : Int32) : St :=
  bd (up2 σ 6 5 1) fun σ1 =>
  bd (k_goTo σ1 a1) fun σ2 =>
  σ2
def k_callOut (σ : St) (a1 : Int32) : St :=
  bd (k_push σ (σ 6 3)) fun σ1 =>
  bd (k_push σ1 4096) fun σ2 =>
  bd (up2 σ2 8 (ix 6) 65520) fun σ3 =>
  bd (k_goOut σ3 a1) fun σ4 =>
  σ4
def k_read_33 (σ : St) (x2 : Int32) : St × Int32 :=
  (σ, (σ 1 (ix x2)))
def k_read (σ : St) (a1 : Int32) : St × Int32 :=
  if (σ 6 5) = 0 then
    k_read_33 σ (a1 &&& 255)
  else
    if (σ 2 (ix (a1 &&& 255))) = 1 then
      k_read_33 σ (a1 &&& 255)
    else
      bd (up2 σ 0 14 2) fun σ4 =>
      (σ4, 0)
def k_pop (σ : St) : St × Int32 :=
  bd2 (k_stack σ) fun σ1 v2 =>
  bd (k_setStack σ1 ((v2 + 1) &&& 65535)) fun σ3 =>
  bd2 (k_read σ3 v2) fun σ4 v5 =>
  (σ4, v5)
def k_endException_97 (σ : St) (x2 : Int32) (y0 : Int32) : St :=
  bd (up2 σ 6 4 y0) fun σ37 =>
  bd2 (k_pop σ37) fun σ38 v39 =>
  bd (k_goTo σ38 v39) fun σ40 =>
  bd (up2 σ40 6 6 x2) fun σ41 =>
  σ41
def k_endException_44_n1 (σ : St) (x2 : Int32) : St :=
  bd2 (k_pop σ) fun σ31 v32 =>
  bd (up2 σ31 8 (ix 6) v32) fun σ33 =>
  bd2 (k_pop σ33) fun σ34 v35 =>
  if v35 = 0 then
    k_endException_97 σ34 x2 0
  else
    k_endException_97 σ34 x2 1
def k_endException_44_0 (σ : St) (x2 : Int32) : St :=
  bd2 (k_pop σ) fun σ27 v28 =>
  bd (up2 σ27 8 (ix 0) v28) fun σ29 =>
  k_endException_44_n1 σ29 x2
def k_endException_44_1 (σ : St) (x2 : Int32) : St :=
  bd2 (k_pop σ) fun σ23 v24 =>
  bd (up2 σ23 8 (ix 1) v24) fun σ25 =>
  k_endException_44_0 σ25 x2
def k_endException_44_2 (σ : St) (x2 : Int32) : St :=
  bd2 (k_pop σ) fun σ19 v20 =>
  bd (up2 σ19 8 (ix 2) v20) fun σ21 =>
  k_endException_44_1 σ21 x2
def k_endException_44_3 (σ : St) (x2 : Int32) : St :=
  bd2 (k_pop σ) fun σ15 v16 =>
  bd (up2 σ15 8 (ix 3) v16) fun σ17 =>
  k_endException_44_2 σ17 x2
def k_endException_44_4 (σ : St) (x2 : Int32) : St :=
  bd2 (k_pop σ) fun σ11 v12 =>
  bd (up2 σ11 8 (ix 4) v12) fun σ13 =>
  k_endException_44_3 σ13 x2
def k_endException_44_5 (σ : St) (x2 : Int32) : St :=
  bd2 (k_pop σ) fun σ7 v8 =>
  bd (up2 σ7 8 (ix 5) v8) fun σ9 =>
  k_endException_44_4 σ9 x2
def k_endException_42 (σ : St) (x2 : Int32) : St :=
  k_endException_44_5 σ x2
def k_endException_22 (σ : St) (x2 : Int32) (y0 : Int32) : St :=
  bd (up2 σ 6 5 y0) fun σ2 =>
  bd2 (k_pop σ2) fun σ3 v4 =>
  if v4 = (1000 + x2) then
    k_endException_42 σ3 x2
  else
    bd (up2 σ3 0 14 2) fun σ42 =>
    k_endException_42 σ42 x2
def k_endException (σ : St) (a1 : Int32) : St :=
  if (a1 &&& 1) = 0 then
    k_endException_22 σ ((a1 >>> ((4 : Int32) &&& 31)) &&& 7) 1
  else
    k_endException_22 σ ((a1 >>> ((4 : Int32) &&& 31)) &&& 7) 0
def k_endOutCall_23 (σ : St) : St :=
  bd2 (k_pop σ) fun σ5 v6 =>
  bd (k_goTo σ5 v6) fun σ7 =>
  σ7
def k_endOutCall (σ : St) : St :=
  bd (up2 σ 6 5 0) fun σ1 =>
  bd2 (k_pop σ1) fun σ2 v3 =>
  if v3 = 4096 then
    k_endOutCall_23 σ2
  else
    bd (up2 σ2 0 14 2) fun σ8 =>
    k_endOutCall_23 σ8
def k_goBack_110 (σ : St) : St :=
  σ
def k_goBack_105 (σ : St) : St :=
  bd (up2 σ 0 14 2) fun σ5 =>
  k_goBack_110 σ5
def k_goBack_72 (σ : St) (x1 : Int32) : St :=
  if x1 < 65408 then
    k_goBack_105 σ
  else
    if 65520 ≤ x1 then
      k_goBack_105 σ
    else
      if (σ 6 6) = 0 then
        k_goBack_105 σ
      else
        bd (k_endException σ (x1 - 65408)) fun σ8 =>
        k_goBack_110 σ8
def k_goBack_49 (σ : St) (x1 : Int32) : St :=
  if x1 = 65520 then
    if (σ 6 5) = 0 then
      k_goBack_72 σ x1
    else
      bd (k_endOutCall σ) fun σ11 =>
      k_goBack_110 σ11
  else
    k_goBack_72 σ x1
def k_goBack (σ : St) : St :=
  if 32768 ≤ (σ 8 (ix 6)) then
    if 65408 ≤ (σ 8 (ix 6)) then
      k_goBack_49 σ (σ 8 (ix 6))
    else
      if (σ 6 5) = 0 then
        bd (k_goOut σ (σ 8 (ix 6))) fun σ14 =>
        k_goBack_110 σ14
      else
        k_goBack_49 σ (σ 8 (ix 6))
  else
    bd (k_goTo σ (σ 8 (ix 6))) fun σ15 =>
    k_goBack_110 σ15
def k_changeFlow_158 (σ : St) : St :=
  σ
def k_changeFlow (σ : St) (a1 : Int32) : St :=
  if (a1 >>> ((12 : Int32) &&& 31)) = 7 then
    bd (k_goTo σ a1) fun σ2 =>
    k_changeFlow_158 σ2
  else if (a1 >>> ((12 : Int32) &&& 31)) = 8 then
    if (σ 6 4) = 0 then
      k_changeFlow_158 σ
    else
      bd (k_goTo σ a1) fun σ6 =>
      k_changeFlow_158 σ6
  else if (a1 >>> ((12 : Int32) &&& 31)) = 9 then
    bd (k_call σ (σ 8 (ix ((a1 >>> ((6 : Int32) &&& 31)) &&& 7)))) fun σ8 =>
    k_changeFlow_158 σ8
  else if (a1 >>> ((12 : Int32) &&& 31)) = 11 then
    bd (k_goOut σ (σ 8 (ix ((a1 >>> ((6 : Int32) &&& 31)) &&& 7)))) fun σ10 =>
    k_changeFlow_158 σ10
  else if (a1 >>> ((12 : Int32) &&& 31)) = 12 then
    bd (k_callOut σ (σ 8 (ix ((a1 >>> ((6 : Int32) &&& 31)) &&& 7)))) fun σ12 =>
    k_changeFlow_158 σ12
  else if (a1 >>> ((12 : Int32) &&& 31)) = 13 then
    bd (k_goBack σ) fun σ14 =>
    k_changeFlow_158 σ14
  else if (a1 >>> ((12 : Int32) &&& 31)) = 14 then
    bd (up2 σ 0 12 ((σ 0 12) ||| ((1 : Int32) <<< ((3 + ((a1 >>> ((3 : Int32) &&& 31)) &&& 3)) &&& 31)))) fun σ16 =>
    k_changeFlow_158 σ16
  else if (a1 >>> ((12 : Int32) &&& 31)) = 15 then
    bd (up2 σ 0 11 1) fun σ18 =>
    k_changeFlow_158 σ18
  else k_changeFlow_158 σ
def k_moveData_203 (σ : St) : St :=
  σ
def k_moveData_143 (σ : St) (y0 : Int32) : St :=
  bd (up2 σ 6 4 y0) fun σ8 =>
  k_moveData_203 σ8
def k_moveData (σ : St) (a1 : Int32) : St :=
  if (a1 >>> ((12 : Int32) &&& 31)) = 0 then
    bd (up2 σ 8 (ix ((a1 >>> ((9 : Int32) &&& 31)) &&& 7)) (a1 &&& 511)) fun σ2 =>
    k_moveData_203 σ2
  else if (a1 >>> ((12 : Int32) &&& 31)) = 1 then
    bd (up2 σ 8 (ix ((a1 >>> ((9 : Int32) &&& 31)) &&& 7)) (((σ 8 (ix ((a1 >>> ((6 : Int32) &&& 31)) &&& 7))) + (σ 8 (ix ((a1 >>> ((3 : Int32) &&& 31)) &&& 7)))) &&& 65535)) fun σ4 =>
    k_moveData_203 σ4
  else if (a1 >>> ((12 : Int32) &&& 31)) = 2 then
    bd (up2 σ 8 (ix ((a1 >>> ((9 : Int32) &&& 31)) &&& 7)) (((σ 8 (ix ((a1 >>> ((6 : Int32) &&& 31)) &&& 7))) - (σ 8 (ix ((a1 >>> ((3 : Int32) &&& 31)) &&& 7)))) &&& 65535)) fun σ6 =>
    if (σ6 8 (ix ((a1 >>> ((9 : Int32) &&& 31)) &&& 7))) = 0 then
      k_moveData_143 σ6 1
    else
      k_moveData_143 σ6 0
  else if (a1 >>> ((12 : Int32) &&& 31)) = 3 then
    bd2 (k_read σ ((σ 8 (ix ((a1 >>> ((6 : Int32) &&& 31)) &&& 7))) + (a1 &&& 63))) fun σ10 v11 =>
    bd (up2 σ10 8 (ix ((a1 >>> ((9 : Int32) &&& 31)) &&& 7)) v11) fun σ12 =>
    k_moveData_203 σ12
  else if (a1 >>> ((12 : Int32) &&& 31)) = 4 then
    bd (k_write σ ((σ 8 (ix ((a1 >>> ((6 : Int32) &&& 31)) &&& 7))) + (a1 &&& 63)) (σ 8 (ix ((a1 >>> ((9 : Int32) &&& 31)) &&& 7)))) fun σ14 =>
    k_moveData_203 σ14
  else if (a1 >>> ((12 : Int32) &&& 31)) = 5 then
    bd (k_push σ (σ 8 (ix ((a1 >>> ((9 : Int32) &&& 31)) &&& 7)))) fun σ16 =>
    k_moveData_203 σ16
  else if (a1 >>> ((12 : Int32) &&& 31)) = 6 then
    bd2 (k_pop σ) fun σ18 v19 =>
    bd (up2 σ18 8 (ix ((a1 >>> ((9 : Int32) &&& 31)) &&& 7)) v19) fun σ20 =>
    k_moveData_203 σ20
  else k_moveData_203 σ
def k_isUnknown_102 (σ : St) (y0 : Int32) : St × Int32 :=
  (σ, y0)
def k_isUnknown_101 (σ : St) : St × Int32 :=
  k_isUnknown_102 σ 0
def k_isUnknown_97 (σ : St) : St × Int32 :=
  k_isUnknown_102 σ 1
def k_isUnknown_80 (σ : St) (x1 : Int32) (x3 : Int32) : St × Int32 :=
  if (x3 &&& 4) = 0 then
    k_isUnknown_101 σ
  else
    if ((x1 >>> ((3 : Int32) &&& 31)) &&& 7) = 7 then
      k_isUnknown_97 σ
    else
      k_isUnknown_101 σ
def k_isUnknown_62 (σ : St) (x1 : Int32) (x3 : Int32) : St × Int32 :=
  if (x3 &&& 2) = 0 then
    k_isUnknown_80 σ x1 x3
  else
    if ((x1 >>> ((6 : Int32) &&& 31)) &&& 7) = 7 then
      k_isUnknown_97 σ
    else
      k_isUnknown_80 σ x1 x3
def k_isUnknown_38 (σ : St) (x1 : Int32) (x2 : Int32) : St × Int32 :=
  if ((named (ix x2)) &&& 1) = 0 then
    k_isUnknown_62 σ x1 (named (ix x2))
  else
    if ((x1 >>> ((9 : Int32) &&& 31)) &&& 7) = 7 then
      k_isUnknown_97 σ
    else
      k_isUnknown_62 σ x1 (named (ix x2))
def k_isUnknown_36 (σ : St) : St × Int32 :=
  (σ, 1)
def k_isUnknown (σ : St) (a1 : Int32) : St × Int32 :=
  if (σ 6 5) = 0 then
    k_isUnknown_38 σ a1 ((a1 >>> ((12 : Int32) &&& 31)) &&& 15)
  else
    if ((a1 >>> ((12 : Int32) &&& 31)) &&& 15) = 11 then
      k_isUnknown_36 σ
    else
      if ((a1 >>> ((12 : Int32) &&& 31)) &&& 15) = 12 then
        k_isUnknown_36 σ
      else
        if ((a1 >>> ((12 : Int32) &&& 31)) &&& 15) = 15 then
          k_isUnknown_36 σ
        else
          k_isUnknown_38 σ a1 ((a1 >>> ((12 : Int32) &&& 31)) &&& 15)
def k_step_106 (σ : St) : St :=
  σ
def k_step_95 (σ : St) : St :=
  if (σ 0 14) = 0 then
    k_step_106 σ
  else
    bd (k_answerFault σ) fun σ10 =>
    k_step_106 σ10
def k_step_53 (σ : St) (x1 : Int32) : St :=
  if (σ 0 14) = 0 then
    bd (k_goTo σ ((σ 6 3) + 1)) fun σ11 =>
    if 6 < (x1 >>> ((12 : Int32) &&& 31)) then
      bd (k_changeFlow σ11 x1) fun σ13 =>
      k_step_95 σ13
    else
      bd (k_moveData σ11 x1) fun σ14 =>
      k_step_95 σ14
  else
    k_step_95 σ
def k_step (σ : St) : St :=
  bd (k_takePending σ) fun σ1 =>
  if (σ1 0 11) = 0 then
    bd (k_copy_76 σ1) fun σ3 =>
    bd (up2 σ3 0 14 0) fun σ4 =>
    bd2 (k_fetch σ4) fun σ5 v6 =>
    if (σ5 0 14) = 0 then
      bd2 (k_isUnknown σ5 v6) fun σ15 v16 =>
      if v16 = 0 then
        k_step_53 σ15 v6
      else
        bd (up2 σ15 0 14 1) fun σ18 =>
        k_step_53 σ18 v6
    else
      k_step_53 σ5 v6
  else
    σ1
def m_poke (σ : St) (a1 : Int32) (a2 : Int32) : St × Int32 :=
  bd (up2 σ 1 (ix (a1 &&& 255)) (a2 &&& 65535)) fun σ1 =>
  (σ1, (σ 1 (ix (a1 &&& 255))))
def m_fill_11 (σ : St) : St × Int32 :=
  (σ, 0)
def m_fill_16_4 (σ : St) (x1 : Int32) (x2 : Int64) : St × Int32 :=
  (σ, 1)
def m_fill_16_3 (σ : St) (x1 : Int32) (x2 : Int64) : St × Int32 :=
  bd (up2 σ 1 (ix (x1 + 3)) ((((x2 >>> (((16 * 3) : Int32).toInt64 &&& 63)) &&& 65535) : Int64).toInt32)) fun σ10 =>
  m_fill_16_4 σ10 x1 x2
def m_fill_16_2 (σ : St) (x1 : Int32) (x2 : Int64) : St × Int32 :=
  bd (up2 σ 1 (ix (x1 + 2)) ((((x2 >>> (((16 * 2) : Int32).toInt64 &&& 63)) &&& 65535) : Int64).toInt32)) fun σ8 =>
  m_fill_16_3 σ8 x1 x2
def m_fill_16_1 (σ : St) (x1 : Int32) (x2 : Int64) : St × Int32 :=
  bd (up2 σ 1 (ix (x1 + 1)) ((((x2 >>> (((16 * 1) : Int32).toInt64 &&& 63)) &&& 65535) : Int64).toInt32)) fun σ6 =>
  m_fill_16_2 σ6 x1 x2
def m_fill_16_0 (σ : St) (x1 : Int32) (x2 : Int64) : St × Int32 :=
  bd (up2 σ 1 (ix (x1 + 0)) ((((x2 >>> (((16 * 0) : Int32).toInt64 &&& 63)) &&& 65535) : Int64).toInt32)) fun σ4 =>
  m_fill_16_1 σ4 x1 x2
def m_fill (σ : St) (a1 : Int32) (a2 : Int64) : St × Int32 :=
  if a1 < 0 then
    m_fill_11 σ
  else
    if a1 ≤ 252 then
      m_fill_16_0 σ a1 a2
    else
      m_fill_11 σ
def m_isAddress_16 (σ : St) (y0 : Int32) : St × Int32 :=
  (σ, y0)
def m_isAddress_15 (σ : St) : St × Int32 :=
  m_isAddress_16 σ 0
def m_isAddress (σ : St) (a0 : Int32) : St × Int32 :=
  if a0 < 0 then
    m_isAddress_15 σ
  else
    if 255 < a0 then
      m_isAddress_15 σ
    else
      m_isAddress_16 σ 1
def m_region_34 (σ : St) : St × Int32 :=
  (σ, 0)
def m_region (σ : St) (a1 : Int32) (a2 : Int32) (a3 : Int32) (a4 : Int32) : St × Int32 :=
  if a1 < 0 then
    m_region_34 σ
  else
    if 3 < a1 then
      m_region_34 σ
    else
      if a4 < 0 then
        m_region_34 σ
      else
        if 2 < a4 then
          m_region_34 σ
        else
          bd2 (m_isAddress σ a2) fun σ5 v6 =>
          if v6 = 0 then
            m_region_34 σ5
          else
            bd2 (m_isAddress σ5 a3) fun σ8 v9 =>
            if v9 = 0 then
              m_region_34 σ8
            else
              bd (up2 σ8 2 (ix a1) a2) fun σ11 =>
              bd (up2 σ11 3 (ix a1) a3) fun σ12 =>
              bd (up2 σ12 4 (ix a1) a4) fun σ13 =>
              (σ13, 1)
def m_settings_32 (σ : St) : St × Int32 :=
  (σ, 0)
def m_settings (σ : St) (a1 : Int32) (a2 : Int32) (a3 : Int32) (a4 : Int32) : St × Int32 :=
  if a2 < 0 then
    m_settings_32 σ
  else
    if 15 < a2 then
      m_settings_32 σ
    else
      if a3 < 0 then
        m_settings_32 σ
      else
        if 31 < a3 then
          m_settings_32 σ
        else
          if a4 < 0 then
            m_settings_32 σ
          else
            if a4 ≤ 31 then
              bd (up2 σ 0 4 a1) fun σ7 =>
              bd (up2 σ7 0 5 a2) fun σ8 =>
              bd (up2 σ8 0 6 a3) fun σ9 =>
              bd (up2 σ9 0 7 a4) fun σ10 =>
              (σ10, 1)
            else
              m_settings_32 σ
def m_begin_32_11 (σ : St) (x3 : Int32) (x4 : Int32) (y0 : Int32) : St × Int32 :=
  bd (up2 σ 5 (ix 11) y0) fun σ6 =>
  bd (up2 σ6 5 (ix 8) (x3 &&& 65535)) fun σ7 =>
  bd (up2 σ7 5 (ix 9) (x4 &&& 65535)) fun σ8 =>
  bd (up2 σ8 0 11 0) fun σ9 =>
  bd (up2 σ9 0 10 0) fun σ10 =>
  bd (up2 σ10 0 12 0) fun σ11 =>
  (σ11, 1)
def m_begin (σ : St) (a1 : Int32) (a2 : Int32) (a3 : Int32) (a4 : Int32) : St × Int32 :=
  bd2 (m_isAddress σ a1) fun σ1 v2 =>
  if v2 = 0 then
    (σ1, 0)
  else
    bd (up2 σ1 5 (ix 7) a1) fun σ4 =>
    if a2 = 0 then
      m_begin_32_11 σ4 a3 a4 0
    else
      m_begin_32_11 σ4 a3 a4 1
def m_set_10 (σ : St) : St × Int32 :=
  (σ, 0)
def m_set (σ : St) (a1 : Int32) (a2 : Int32) : St × Int32 :=
  if a1 < 0 then
    m_set_10 σ
  else
    if a1 ≤ 6 then
      bd (up2 σ 5 (ix a1) (a2 &&& 65535)) fun σ3 =>
      (σ3, 1)
    else
      m_set_10 σ
def m_interrupt_11 (σ : St) : St × Int32 :=
  (σ, 0)
def m_interrupt (σ : St) (a1 : Int32) : St × Int32 :=
  if a1 < 3 then
    m_interrupt_11 σ
  else
    if a1 ≤ 6 then
      bd (up2 σ 0 12 ((σ 0 12) ||| ((1 : Int32) <<< (a1 &&& 31)))) fun σ3 =>
      (σ3, 1)
    else
      m_interrupt_11 σ
def m_kindAt_81 (σ : St) (y0 : Int32) : St × Int32 :=
  (σ, y0)
def m_kindAt_14_4 (σ : St) (x2 : Int32) (x3 : Int32) (x4 : Int32) : St × Int32 :=
  if x3 = 1 then
    m_kindAt_81 σ x4
  else
    m_kindAt_81 σ 0
def m_kindAt_64_3 (σ : St) (x2 : Int32) (x3 : Int32) (x4 : Int32) : St × Int32 :=
  m_kindAt_14_4 σ x2 x3 x4
def m_kindAt_14_3 (σ : St) (x2 : Int32) (x3 : Int32) (x4 : Int32) : St × Int32 :=
  if (σ 4 (ix 3)) = 0 then
    m_kindAt_64_3 σ x2 x3 x4
  else
    if x2 < (σ 2 (ix 3)) then
      m_kindAt_64_3 σ x2 x3 x4
    else
      if (σ 3 (ix 3)) < x2 then
        m_kindAt_64_3 σ x2 x3 x4
      else
        m_kindAt_64_3 σ x2 (x3 + 1) (σ 4 (ix 3))
def m_kindAt_64_2 (σ : St) (x2 : Int32) (x3 : Int32) (x4 : Int32) : St × Int32 :=
  m_kindAt_14_3 σ x2 x3 x4
def m_kindAt_14_2 (σ : St) (x2 : Int32) (x3 : Int32) (x4 : Int32) : St × Int32 :=
  if (σ 4 (ix 2)) = 0 then
    m_kindAt_64_2 σ x2 x3 x4
  else
    if x2 < (σ 2 (ix 2)) then
      m_kindAt_64_2 σ x2 x3 x4
    else
      if (σ 3 (ix 2)) < x2 then
        m_kindAt_64_2 σ x2 x3 x4
      else
        m_kindAt_64_2 σ x2 (x3 + 1) (σ 4 (ix 2))
def m_kindAt_64_1 (σ : St) (x2 : Int32) (x3 : Int32) (x4 : Int32) : St × Int32 :=
  m_kindAt_14_2 σ x2 x3 x4
def m_kindAt_14_1 (σ : St) (x2 : Int32) (x3 : Int32) (x4 : Int32) : St × Int32 :=
  if (σ 4 (ix 1)) = 0 then
    m_kindAt_64_1 σ x2 x3 x4
  else
    if x2 < (σ 2 (ix 1)) then
      m_kindAt_64_1 σ x2 x3 x4
    else
      if (σ 3 (ix 1)) < x2 then
        m_kindAt_64_1 σ x2 x3 x4
      else
        m_kindAt_64_1 σ x2 (x3 + 1) (σ 4 (ix 1))
def m_kindAt_64_0 (σ : St) (x2 : Int32) (x3 : Int32) (x4 : Int32) : St × Int32 :=
  m_kindAt_14_1 σ x2 x3 x4
def m_kindAt_14_0 (σ : St) (x2 : Int32) (x3 : Int32) (x4 : Int32) : St × Int32 :=
  if (σ 4 (ix 0)) = 0 then
    m_kindAt_64_0 σ x2 x3 x4
  else
    if x2 < (σ 2 (ix 0)) then
      m_kindAt_64_0 σ x2 x3 x4
    else
      if (σ 3 (ix 0)) < x2 then
        m_kindAt_64_0 σ x2 x3 x4
      else
        m_kindAt_64_0 σ x2 (x3 + 1) (σ 4 (ix 0))
def m_kindAt (σ : St) (a1 : Int32) : St × Int32 :=
  m_kindAt_14_0 σ (a1 &&& 255) 0 0
def m_isOpenWorld_16 (σ : St) (y0 : Int32) : St × Int32 :=
  (σ, y0)
def m_isOpenWorld (σ : St) : St × Int32 :=
  if (σ 5 (ix 11)) = 1 then
    m_isOpenWorld_16 σ 1
  else
    m_isOpenWorld_16 σ 0
def m_speak_12 (σ : St) : St :=
  σ
def m_speak (σ : St) (a1 : Int32) : St :=
  if (σ 0 14) = 0 then
    bd (up2 σ 0 14 a1) fun σ2 =>
    m_speak_12 σ2
  else
    m_speak_12 σ
def m_mayUse_21 (σ : St) (y0 : Int32) : St × Int32 :=
  (σ, y0)
def m_mayUse_16 (σ : St) : St × Int32 :=
  m_mayUse_21 σ 1
def m_mayUse (σ : St) (a1 : Int32) : St × Int32 :=
  bd2 (m_isOpenWorld σ) fun σ1 v2 =>
  if v2 = 0 then
    m_mayUse_16 σ1
  else
    bd2 (m_kindAt σ1 a1) fun σ4 v5 =>
    if v5 = 1 then
      m_mayUse_16 σ4
    else
      m_mayUse_21 σ4 0
def m_read_13 (σ : St) (x1 : Int32) : St × Int32 :=
  (σ, (σ 1 (ix (x1 &&& 255))))
def m_read (σ : St) (a1 : Int32) : St × Int32 :=
  bd2 (m_mayUse σ a1) fun σ1 v2 =>
  if v2 = 0 then
    bd (m_speak σ1 2) fun σ4 =>
    m_read_13 σ4 a1
  else
    m_read_13 σ1 a1
def m_write_38 (σ : St) : St :=
  σ
def m_write (σ : St) (a1 : Int32) (a2 : Int32) : St :=
  if (σ 0 14) = 0 then
    bd2 (m_mayUse σ a1) fun σ2 v3 =>
    if v3 = 0 then
      bd (m_speak σ2 2) fun σ5 =>
      m_write_38 σ5
    else
      bd (up2 σ2 1 (ix (a1 &&& 255)) (a2 &&& 65535)) fun σ6 =>
      m_write_38 σ6
  else
    σ
def m_stack_14 (σ : St) (y0 : Int32) : St × Int32 :=
  (σ, y0)
def m_stack (σ : St) : St × Int32 :=
  bd2 (m_isOpenWorld σ) fun σ1 v2 =>
  if v2 = 0 then
    m_stack_14 σ1 8
  else
    m_stack_14 σ1 9
def m_push (σ : St) (a1 : Int32) : St :=
  bd2 (m_stack σ) fun σ1 v2 =>
  bd (up2 σ1 5 (ix v2) (((σ1 5 (ix v2)) - 1) &&& 65535)) fun σ3 =>
  bd (m_write σ3 (σ3 5 (ix v2)) a1) fun σ4 =>
  σ4
def m_pop (σ : St) : St × Int32 :=
  if (σ 0 14) = 0 then
    bd2 (m_stack σ) fun σ2 v3 =>
    bd2 (m_read σ2 (σ2 5 (ix v3))) fun σ4 v5 =>
    bd (up2 σ4 5 (ix v3) (((σ4 5 (ix v3)) + 1) &&& 65535)) fun σ6 =>
    (σ6, v5)
  else
    (σ, 0)
def m_keep_2_12 (σ : St) : St :=
  bd (up2 σ 0 14 0) fun σ26 =>
  σ26
def m_keep_2_11 (σ : St) : St :=
  bd (up2 σ 6 (ix 11) (σ 5 (ix 11))) fun σ24 =>
  m_keep_2_12 σ24
def m_keep_2_10 (σ : St) : St :=
  bd (up2 σ 6 (ix 10) (σ 5 (ix 10))) fun σ22 =>
  m_keep_2_11 σ22
def m_keep_2_9 (σ : St) : St :=
  bd (up2 σ 6 (ix 9) (σ 5 (ix 9))) fun σ20 =>
  m_keep_2_10 σ20
def m_keep_2_8 (σ : St) : St :=
  bd (up2 σ 6 (ix 8) (σ 5 (ix 8))) fun σ18 =>
  m_keep_2_9 σ18
def m_keep_2_7 (σ : St) : St :=
  bd (up2 σ 6 (ix 7) (σ 5 (ix 7))) fun σ16 =>
  m_keep_2_8 σ16
def m_keep_2_6 (σ : St) : St :=
  bd (up2 σ 6 (ix 6) (σ 5 (ix 6))) fun σ14 =>
  m_keep_2_7 σ14
def m_keep_2_5 (σ : St) : St :=
  bd (up2 σ 6 (ix 5) (σ 5 (ix 5))) fun σ12 =>
  m_keep_2_6 σ12
def m_keep_2_4 (σ : St) : St :=
  bd (up2 σ 6 (ix 4) (σ 5 (ix 4))) fun σ10 =>
  m_keep_2_5 σ10
def m_keep_2_3 (σ : St) : St :=
  bd (up2 σ 6 (ix 3) (σ 5 (ix 3))) fun σ8 =>
  m_keep_2_4 σ8
def m_keep_2_2 (σ : St) : St :=
  bd (up2 σ 6 (ix 2) (σ 5 (ix 2))) fun σ6 =>
  m_keep_2_3 σ6
def m_keep_2_1 (σ : St) : St :=
  bd (up2 σ 6 (ix 1) (σ 5 (ix 1))) fun σ4 =>
  m_keep_2_2 σ4
def m_keep_2_0 (σ : St) : St :=
  bd (up2 σ 6 (ix 0) (σ 5 (ix 0))) fun σ2 =>
  m_keep_2_1 σ2
def m_keep (σ : St) : St :=
  m_keep_2_0 σ
def m_takeBack_2_12 (σ : St) : St :=
  σ
def m_takeBack_2_11 (σ : St) : St :=
  bd (up2 σ 5 (ix 11) (σ 6 (ix 11))) fun σ24 =>
  m_takeBack_2_12 σ24
def m_takeBack_2_10 (σ : St) : St :=
  bd (up2 σ 5 (ix 10) (σ 6 (ix 10))) fun σ22 =>
  m_takeBack_2_11 σ22
def m_takeBack_2_9 (σ : St) : St :=
  bd (up2 σ 5 (ix 9) (σ 6 (ix 9))) fun σ20 =>
  m_takeBack_2_10 σ20
def m_takeBack_2_8 (σ : St) : St :=
  bd (up2 σ 5 (ix 8) (σ 6 (ix 8))) fun σ18 =>
  m_takeBack_2_9 σ18
def m_takeBack_2_7 (σ : St) : St :=
  bd (up2 σ 5 (ix 7) (σ 6 (ix 7))) fun σ16 =>
  m_takeBack_2_8 σ16
def m_takeBack_2_6 (σ : St) : St :=
  bd (up2 σ 5 (ix 6) (σ 6 (ix 6))) fun σ14 =>
  m_takeBack_2_7 σ14
def m_takeBack_2_5 (σ : St) : St :=
  bd (up2 σ 5 (ix 5) (σ 6 (ix 5))) fun σ12 =>
  m_takeBack_2_6 σ12
def m_takeBack_2_4 (σ : St) : St :=
  bd (up2 σ 5 (ix 4) (σ 6 (ix 4))) fun σ10 =>
  m_takeBack_2_5 σ10
def m_takeBack_2_3 (σ : St) : St :=
  bd (up2 σ 5 (ix 3) (σ 6 (ix 3))) fun σ8 =>
  m_takeBack_2_4 σ8
def m_takeBack_2_2 (σ : St) : St :=
  bd (up2 σ 5 (ix 2) (σ 6 (ix 2))) fun σ6 =>
  m_takeBack_2_3 σ6
def m_takeBack_2_1 (σ : St) : St :=
  bd (up2 σ 5 (ix 1) (σ 6 (ix 1))) fun σ4 =>
  m_takeBack_2_2 σ4
def m_takeBack_2_0 (σ : St) : St :=
  bd (up2 σ 5 (ix 0) (σ 6 (ix 0))) fun σ2 =>
  m_takeBack_2_1 σ2
def m_takeBack (σ : St) : St :=
  m_takeBack_2_0 σ
def m_isClosedOne_24 (σ : St) (y0 : Int32) : St × Int32 :=
  (σ, y0)
def m_isClosedOne_19 (σ : St) : St × Int32 :=
  m_isClosedOne_24 σ 1
def m_isClosedOne (σ : St) (a1 : Int32) : St × Int32 :=
  if a1 < 3 then
    m_isClosedOne_19 σ
  else
    if (((σ 0 5) >>> ((a1 - 3) &&& 31)) &&& 1) = 1 then
      m_isClosedOne_19 σ
    else
      m_isClosedOne_24 σ 0
def m_take_226_8_7 (σ : St) (x1 : Int32) (y0 : Int32) : St :=
  bd (up2 σ 5 (ix 7) ((σ 1 (ix (((8 * y0) + x1) &&& 255))) &&& 255)) fun σ33 =>
  bd (up2 σ33 0 10 x1) fun σ34 =>
  bd (up2 σ34 0 13 x1) fun σ35 =>
  σ35
def m_take_197_11 (σ : St) (x1 : Int32) (x4 : Int32) (y0 : Int32) : St :=
  bd (up2 σ 5 (ix 11) y0) fun σ31 =>
  if x4 = 0 then
    m_take_226_8_7 σ31 x1 (σ31 0 7)
  else
    m_take_226_8_7 σ31 x1 (σ31 0 6)
def m_take_181 (σ : St) (x1 : Int32) (x4 : Int32) : St :=
  if x4 = 0 then
    m_take_197_11 σ x1 x4 1
  else
    m_take_197_11 σ x1 x4 0
def m_take_164 (σ : St) (x1 : Int32) (x3 : Int32) (x4 : Int32) : St :=
  if x3 = 0 then
    m_take_181 σ x1 x4
  else
    if x4 = 0 then
      bd (up2 σ 5 (ix 10) 0) fun σ37 =>
      m_take_181 σ37 x1 x4
    else
      m_take_181 σ x1 x4
def m_take_134_6 (σ : St) (x1 : Int32) (x3 : Int32) (x4 : Int32) : St :=
  m_take_164 σ x1 x3 x4
def m_take_134_5 (σ : St) (x1 : Int32) (x3 : Int32) (x4 : Int32) : St :=
  if x3 = 0 then
    m_take_164 σ x1 x3 x4
  else
    if x4 = 0 then
      bd (up2 σ 5 (ix 5) 0) fun σ59 =>
      m_take_134_6 σ59 x1 x3 x4
    else
      m_take_164 σ x1 x3 x4
def m_take_134_4 (σ : St) (x1 : Int32) (x3 : Int32) (x4 : Int32) : St :=
  if x3 = 0 then
    m_take_164 σ x1 x3 x4
  else
    if x4 = 0 then
      bd (up2 σ 5 (ix 4) 0) fun σ55 =>
      m_take_134_5 σ55 x1 x3 x4
    else
      m_take_164 σ x1 x3 x4
def m_take_134_3 (σ : St) (x1 : Int32) (x3 : Int32) (x4 : Int32) : St :=
  if x3 = 0 then
    m_take_164 σ x1 x3 x4
  else
    if x4 = 0 then
      bd (up2 σ 5 (ix 3) 0) fun σ51 =>
      m_take_134_4 σ51 x1 x3 x4
    else
      m_take_164 σ x1 x3 x4
def m_take_134_2 (σ : St) (x1 : Int32) (x3 : Int32) (x4 : Int32) : St :=
  if x3 = 0 then
    m_take_164 σ x1 x3 x4
  else
    if x4 = 0 then
      bd (up2 σ 5 (ix 2) 0) fun σ47 =>
      m_take_134_3 σ47 x1 x3 x4
    else
      m_take_164 σ x1 x3 x4
def m_take_134_1 (σ : St) (x1 : Int32) (x3 : Int32) (x4 : Int32) : St :=
  if x3 = 0 then
    m_take_164 σ x1 x3 x4
  else
    if x4 = 0 then
      bd (up2 σ 5 (ix 1) 0) fun σ43 =>
      m_take_134_2 σ43 x1 x3 x4
    else
      m_take_164 σ x1 x3 x4
def m_take_134_0 (σ : St) (x1 : Int32) (x3 : Int32) (x4 : Int32) : St :=
  if x3 = 0 then
    m_take_164 σ x1 x3 x4
  else
    if x4 = 0 then
      bd (up2 σ 5 (ix 0) 0) fun σ39 =>
      m_take_134_1 σ39 x1 x3 x4
    else
      m_take_164 σ x1 x3 x4
def m_take_129_6 (σ : St) (x1 : Int32) (x3 : Int32) (x4 : Int32) (y0 : Int32) (y1 : Int32) : St :=
  bd (up2 σ 5 (ix 6) (y1 + y0)) fun σ26 =>
  m_take_134_0 σ26 x1 x3 x4
def m_take_96 (σ : St) (x1 : Int32) (y0 : Int32) : St :=
  bd2 (m_isClosedOne σ x1) fun σ23 v24 =>
  if y0 = 0 then
    m_take_129_6 σ23 x1 y0 v24 0 (65408 + (16 * (σ23 0 10)))
  else
    m_take_129_6 σ23 x1 y0 v24 1 (65408 + (16 * (σ23 0 10)))
def m_take_33_6 (σ : St) (x1 : Int32) : St :=
  bd (m_push σ (1000 + (σ 0 10))) fun σ18 =>
  if (σ18 0 14) = 0 then
    bd2 (m_isOpenWorld σ18) fun σ20 v21 =>
    if v21 = 0 then
      m_take_96 σ20 x1 1
    else
      m_take_96 σ20 x1 0
  else
    bd (m_takeBack σ18) fun σ61 =>
    bd (up2 σ61 0 11 2) fun σ62 =>
    σ62
def m_take_33_5 (σ : St) (x1 : Int32) : St :=
  bd (m_push σ (σ 5 (ix 5))) fun σ16 =>
  m_take_33_6 σ16 x1
def m_take_33_4 (σ : St) (x1 : Int32) : St :=
  bd (m_push σ (σ 5 (ix 4))) fun σ14 =>
  m_take_33_5 σ14 x1
def m_take_33_3 (σ : St) (x1 : Int32) : St :=
  bd (m_push σ (σ 5 (ix 3))) fun σ12 =>
  m_take_33_4 σ12 x1
def m_take_33_2 (σ : St) (x1 : Int32) : St :=
  bd (m_push σ (σ 5 (ix 2))) fun σ10 =>
  m_take_33_3 σ10 x1
def m_take_33_1 (σ : St) (x1 : Int32) : St :=
  bd (m_push σ (σ 5 (ix 1))) fun σ8 =>
  m_take_33_2 σ8 x1
def m_take_33_0 (σ : St) (x1 : Int32) : St :=
  bd (m_push σ (σ 5 (ix 0))) fun σ6 =>
  m_take_33_1 σ6 x1
def m_take (σ : St) (a1 : Int32) (a2 : Int32) : St :=
  bd (m_keep σ) fun σ1 =>
  bd (m_push σ1 a2) fun σ2 =>
  bd (m_push σ2 (σ2 5 (ix 10))) fun σ3 =>
  bd (m_push σ3 (σ3 5 (ix 6))) fun σ4 =>
  m_take_33_0 σ4 a1
def m_fault_69 (σ : St) : St :=
  σ
def m_fault_49 (σ : St) : St :=
  bd (up2 σ 0 11 2) fun σ4 =>
  m_fault_69 σ4
def m_fault_57 (σ : St) (x1 : Int32) : St :=
  bd (m_take σ x1 (σ 5 (ix 7))) fun σ6 =>
  m_fault_69 σ6
def m_fault_23 (σ : St) (y0 : Int32) : St :=
  bd (m_takeBack σ) fun σ2 =>
  if (σ2 0 10) = 1 then
    m_fault_49 σ2
  else
    if (σ2 0 10) = 2 then
      if y0 = 1 then
        m_fault_57 σ2 y0
      else
        m_fault_49 σ2
    else
      m_fault_57 σ2 y0
def m_fault_19 (σ : St) : St :=
  m_fault_23 σ (σ 0 14)
def m_fault (σ : St) : St :=
  if (σ 0 14) = 2 then
    if (σ 0 4) = 0 then
      m_fault_23 σ 1
    else
      m_fault_19 σ
  else
    m_fault_19 σ
def m_endException_136 (σ : St) : St :=
  σ
def m_endException_108_10 (σ : St) (x2 : Int32) (y0 : Int32) : St :=
  bd (up2 σ 5 (ix 10) y0) fun σ37 =>
  bd2 (m_pop σ37) fun σ38 v39 =>
  bd (up2 σ38 5 (ix 7) (v39 &&& 255)) fun σ40 =>
  if (σ40 0 14) = 0 then
    bd (up2 σ40 0 10 x2) fun σ42 =>
    m_endException_136 σ42
  else
    m_endException_136 σ40
def m_endException_57_n1 (σ : St) (x2 : Int32) : St :=
  bd2 (m_pop σ) fun σ31 v32 =>
  bd (up2 σ31 5 (ix 6) v32) fun σ33 =>
  bd2 (m_pop σ33) fun σ34 v35 =>
  if v35 = 0 then
    m_endException_108_10 σ34 x2 0
  else
    m_endException_108_10 σ34 x2 1
def m_endException_57_0 (σ : St) (x2 : Int32) : St :=
  bd2 (m_pop σ) fun σ27 v28 =>
  bd (up2 σ27 5 (ix 0) v28) fun σ29 =>
  m_endException_57_n1 σ29 x2
def m_endException_57_1 (σ : St) (x2 : Int32) : St :=
  bd2 (m_pop σ) fun σ23 v24 =>
  bd (up2 σ23 5 (ix 1) v24) fun σ25 =>
  m_endException_57_0 σ25 x2
def m_endException_57_2 (σ : St) (x2 : Int32) : St :=
  bd2 (m_pop σ) fun σ19 v20 =>
  bd (up2 σ19 5 (ix 2) v20) fun σ21 =>
  m_endException_57_1 σ21 x2
def m_endException_57_3 (σ : St) (x2 : Int32) : St :=
  bd2 (m_pop σ) fun σ15 v16 =>
  bd (up2 σ15 5 (ix 3) v16) fun σ17 =>
  m_endException_57_2 σ17 x2
def m_endException_57_4 (σ : St) (x2 : Int32) : St :=
  bd2 (m_pop σ) fun σ11 v12 =>
  bd (up2 σ11 5 (ix 4) v12) fun σ13 =>
  m_endException_57_3 σ13 x2
def m_endException_57_5 (σ : St) (x2 : Int32) : St :=
  bd2 (m_pop σ) fun σ7 v8 =>
  bd (up2 σ7 5 (ix 5) v8) fun σ9 =>
  m_endException_57_4 σ9 x2
def m_endException_54 (σ : St) (x2 : Int32) : St :=
  m_endException_57_5 σ x2
def m_endException_34_11 (σ : St) (x2 : Int32) (y0 : Int32) : St :=
  bd (up2 σ 5 (ix 11) y0) fun σ2 =>
  bd2 (m_pop σ2) fun σ3 v4 =>
  if v4 = (1000 + x2) then
    m_endException_54 σ3 x2
  else
    bd (m_speak σ3 2) fun σ43 =>
    m_endException_54 σ43 x2
def m_endException (σ : St) : St :=
  if (((σ 5 (ix 6)) - 65408) &&& 1) = 1 then
    m_endException_34_11 σ (((σ 5 (ix 6)) - 65408) / 16) 0
  else
    m_endException_34_11 σ (((σ 5 (ix 6)) - 65408) / 16) 1
def m_returns_152 (σ : St) : St :=
  σ
def m_returns_147 (σ : St) : St :=
  bd (m_speak σ 2) fun σ5 =>
  m_returns_152 σ5
def m_returns_121 (σ : St) (x1 : Int32) : St :=
  if x1 < 65408 then
    m_returns_147 σ
  else
    if 65520 ≤ x1 then
      m_returns_147 σ
    else
      if (σ 0 10) = 0 then
        m_returns_147 σ
      else
        bd (m_endException σ) fun σ8 =>
        m_returns_152 σ8
def m_returns_103 (σ : St) : St :=
  bd2 (m_pop σ) fun σ16 v17 =>
  bd (up2 σ16 5 (ix 7) (v17 &&& 255)) fun σ18 =>
  m_returns_152 σ18
def m_returns_65 (σ : St) (x1 : Int32) : St :=
  if x1 = 65520 then
    bd2 (m_isOpenWorld σ) fun σ9 v10 =>
    if v10 = 0 then
      m_returns_121 σ9 x1
    else
      bd (up2 σ9 5 (ix 11) 0) fun σ12 =>
      bd2 (m_pop σ12) fun σ13 v14 =>
      if v14 = 4096 then
        m_returns_103 σ13
      else
        bd (m_speak σ13 2) fun σ19 =>
        m_returns_103 σ19
  else
    m_returns_121 σ x1
def m_returns (σ : St) : St :=
  if 32768 ≤ (σ 5 (ix 6)) then
    if 65408 ≤ (σ 5 (ix 6)) then
      m_returns_65 σ (σ 5 (ix 6))
    else
      bd2 (m_isOpenWorld σ) fun σ20 v21 =>
      if v21 = 0 then
        bd (up2 σ20 5 (ix 11) 1) fun σ23 =>
        bd (up2 σ23 5 (ix 7) ((σ 5 (ix 6)) &&& 255)) fun σ24 =>
        m_returns_152 σ24
      else
        m_returns_65 σ20 (σ 5 (ix 6))
  else
    bd (up2 σ 5 (ix 7) ((σ 5 (ix 6)) &&& 255)) fun σ25 =>
    m_returns_152 σ25
def m_namesSeven_91 (σ : St) (y0 : Int32) : St × Int32 :=
  (σ, y0)
def m_namesSeven_86 (σ : St) : St × Int32 :=
  m_namesSeven_91 σ 1
def m_namesSeven_90 (σ : St) : St × Int32 :=
  m_namesSeven_91 σ 0
def m_namesSeven_80 (σ : St) (x3 : Int32) : St × Int32 :=
  if x3 = 7 then
    m_namesSeven_86 σ
  else
    m_namesSeven_90 σ
def m_namesSeven_58 (σ : St) (x0 : Int32) (x3 : Int32) (x4 : Int32) (y0 : Int32) : St × Int32 :=
  if x4 = 0 then
    if y0 = 0 then
      if x0 = 1 then
        m_namesSeven_80 σ x3
      else
        if x0 = 2 then
          m_namesSeven_80 σ x3
        else
          m_namesSeven_90 σ
    else
      m_namesSeven_86 σ
  else
    m_namesSeven_86 σ
def m_namesSeven_57 (σ : St) (x0 : Int32) (x3 : Int32) (x4 : Int32) : St × Int32 :=
  m_namesSeven_58 σ x0 x3 x4 0
def m_namesSeven_47 (σ : St) (x0 : Int32) (x2 : Int32) (x3 : Int32) (x4 : Int32) : St × Int32 :=
  if x2 = 7 then
    m_namesSeven_58 σ x0 x3 x4 1
  else
    m_namesSeven_57 σ x0 x3 x4
def m_namesSeven_29 (σ : St) (x0 : Int32) (x2 : Int32) (x3 : Int32) (x4 : Int32) : St × Int32 :=
  if x0 = 9 then
    m_namesSeven_47 σ x0 x2 x3 x4
  else
    if x0 = 11 then
      m_namesSeven_47 σ x0 x2 x3 x4
    else
      if x0 = 12 then
        m_namesSeven_47 σ x0 x2 x3 x4
      else
        m_namesSeven_57 σ x0 x3 x4
def m_namesSeven_17 (σ : St) (x0 : Int32) (x2 : Int32) (x3 : Int32) (y0 : Int32) : St × Int32 :=
  if x0 < 1 then
    m_namesSeven_29 σ x0 x2 x3 y0
  else
    if x0 ≤ 4 then
      m_namesSeven_47 σ x0 x2 x3 y0
    else
      m_namesSeven_29 σ x0 x2 x3 y0
def m_namesSeven_16 (σ : St) (x0 : Int32) (x2 : Int32) (x3 : Int32) : St × Int32 :=
  m_namesSeven_17 σ x0 x2 x3 0
def m_namesSeven (σ : St) (a0 : Int32) (a1 : Int32) (a2 : Int32) (a3 : Int32) : St × Int32 :=
  if 6 < a0 then
    m_namesSeven_16 σ a0 a2 a3
  else
    if a1 = 7 then
      m_namesSeven_17 σ a0 a2 a3 1
    else
      m_namesSeven_16 σ a0 a2 a3
def m_outwards_37 (σ : St) (x4 : Int32) : St :=
  bd (up2 σ 5 (ix 11) 1) fun σ2 =>
  bd (up2 σ2 5 (ix 7) x4) fun σ3 =>
  σ3
def m_outwards (σ : St) (a1 : Int32) (a2 : Int32) (a3 : Int32) : St :=
  if a3 = 0 then
    m_outwards_37 σ ((σ 5 (ix a1)) &&& 255)
  else
    bd (m_push σ a2) fun σ4 =>
    bd (m_push σ4 4096) fun σ5 =>
    bd (up2 σ5 5 (ix 6) 65520) fun σ6 =>
    m_outwards_37 σ6 ((σ 5 (ix a1)) &&& 255)
def m_call (σ : St) (a1 : Int32) (a2 : Int32) : St :=
  bd (up2 σ 5 (ix 6) a2) fun σ1 =>
  bd (up2 σ1 5 (ix 7) ((σ 5 (ix a1)) &&& 255)) fun σ2 =>
  σ2
def m_perform_94 (σ : St) : St :=
  bd (m_speak σ 1) fun σ5 =>
  σ5
def m_perform_465 (σ : St) : St :=
  σ
def m_perform_269_10 (σ : St) (y0 : Int32) : St :=
  bd (up2 σ 5 (ix 10) y0) fun σ15 =>
  m_perform_465 σ15
def m_perform_391_7 (σ : St) (y0 : Int32) : St :=
  bd (up2 σ 5 (ix 7) y0) fun σ32 =>
  m_perform_465 σ32
def m_perform_100 (σ : St) (x1 : Int32) (x2 : Int32) (x3 : Int32) (x4 : Int32) (x5 : Int32) (x6 : Int32) : St :=
  bd (up2 σ 5 (ix 7) x6) fun σ7 =>
  if x2 = 0 then
    bd (up2 σ7 5 (ix x3) (x1 &&& 511)) fun σ9 =>
    m_perform_465 σ9
  else if x2 = 1 then
    bd (up2 σ7 5 (ix x3) (((σ7 5 (ix x4)) + (σ7 5 (ix x5))) &&& 65535)) fun σ11 =>
    m_perform_465 σ11
  else if x2 = 2 then
    bd (up2 σ7 5 (ix x3) (((σ7 5 (ix x4)) - (σ7 5 (ix x5))) &&& 65535)) fun σ13 =>
    if (σ13 5 (ix x3)) = 0 then
      m_perform_269_10 σ13 1
    else
      m_perform_269_10 σ13 0
  else if x2 = 3 then
    bd2 (m_read σ7 ((σ7 5 (ix x4)) + (x1 &&& 63))) fun σ17 v18 =>
    bd (up2 σ17 5 (ix x3) v18) fun σ19 =>
    m_perform_465 σ19
  else if x2 = 4 then
    bd (m_write σ7 ((σ7 5 (ix x4)) + (x1 &&& 63)) (σ7 5 (ix x3))) fun σ21 =>
    m_perform_465 σ21
  else if x2 = 5 then
    bd (m_push σ7 (σ7 5 (ix x3))) fun σ23 =>
    m_perform_465 σ23
  else if x2 = 6 then
    bd2 (m_pop σ7) fun σ25 v26 =>
    bd (up2 σ25 5 (ix x3) v26) fun σ27 =>
    m_perform_465 σ27
  else if x2 = 7 then
    bd (up2 σ7 5 (ix 7) (x1 &&& 255)) fun σ29 =>
    m_perform_465 σ29
  else if x2 = 8 then
    if (σ7 5 (ix 10)) = 1 then
      m_perform_391_7 σ7 (x1 &&& 255)
    else
      m_perform_391_7 σ7 x6
  else if x2 = 9 then
    bd (m_call σ7 x4 x6) fun σ34 =>
    m_perform_465 σ34
  else if x2 = 10 then
    m_perform_465 σ7
  else if x2 = 11 then
    bd (m_outwards σ7 x4 x6 0) fun σ37 =>
    m_perform_465 σ37
  else if x2 = 12 then
    bd (m_outwards σ7 x4 x6 1) fun σ39 =>
    m_perform_465 σ39
  else if x2 = 13 then
    bd (m_returns σ7) fun σ41 =>
    m_perform_465 σ41
  else if x2 = 14 then
    bd (up2 σ7 0 12 ((σ7 0 12) ||| ((1 : Int32) <<< ((3 + (x5 - x5 / 4 * 4)) &&& 31)))) fun σ43 =>
    m_perform_465 σ43
  else bd (up2 σ7 0 11 1) fun σ44 =>
    m_perform_465 σ44
def m_perform_68 (σ : St) (x1 : Int32) (x2 : Int32) (x3 : Int32) (x4 : Int32) (x5 : Int32) (x6 : Int32) (y0 : Int32) : St :=
  bd2 (m_namesSeven σ x2 x3 x4 x5) fun σ2 v3 =>
  if v3 = 0 then
    if y0 = 0 then
      m_perform_100 σ2 x1 x2 x3 x4 x5 x6
    else
      bd2 (m_isOpenWorld σ2) fun σ45 v46 =>
      if v46 = 0 then
        m_perform_100 σ45 x1 x2 x3 x4 x5 x6
      else
        m_perform_94 σ45
  else
    m_perform_94 σ2
def m_perform_63 (σ : St) (x1 : Int32) (x2 : Int32) (x3 : Int32) (x4 : Int32) (x5 : Int32) (x6 : Int32) : St :=
  m_perform_68 σ x1 x2 x3 x4 x5 x6 1
def m_perform (σ : St) (a1 : Int32) : St :=
  if (a1 >>> ((12 : Int32) &&& 31)) = 11 then
    m_perform_63 σ a1 (a1 >>> ((12 : Int32) &&& 31)) ((a1 >>> ((9 : Int32) &&& 31)) &&& 7) ((a1 >>> ((6 : Int32) &&& 31)) &&& 7) ((a1 >>> ((3 : Int32) &&& 31)) &&& 7) (((σ 5 (ix 7)) + 1) &&& 255)
  else
    if (a1 >>> ((12 : Int32) &&& 31)) = 12 then
      m_perform_63 σ a1 (a1 >>> ((12 : Int32) &&& 31)) ((a1 >>> ((9 : Int32) &&& 31)) &&& 7) ((a1 >>> ((6 : Int32) &&& 31)) &&& 7) ((a1 >>> ((3 : Int32) &&& 31)) &&& 7) (((σ 5 (ix 7)) + 1) &&& 255)
    else
      if (a1 >>> ((12 : Int32) &&& 31)) = 15 then
        m_perform_63 σ a1 (a1 >>> ((12 : Int32) &&& 31)) ((a1 >>> ((9 : Int32) &&& 31)) &&& 7) ((a1 >>> ((6 : Int32) &&& 31)) &&& 7) ((a1 >>> ((3 : Int32) &&& 31)) &&& 7) (((σ 5 (ix 7)) + 1) &&& 255)
      else
        m_perform_68 σ a1 (a1 >>> ((12 : Int32) &&& 31)) ((a1 >>> ((9 : Int32) &&& 31)) &&& 7) ((a1 >>> ((6 : Int32) &&& 31)) &&& 7) ((a1 >>> ((3 : Int32) &&& 31)) &&& 7) (((σ 5 (ix 7)) + 1) &&& 255) 0
def m_instruction_145 (σ : St) : St :=
  σ
def m_instruction_134 (σ : St) : St :=
  if (σ 0 14) = 0 then
    m_instruction_145 σ
  else
    bd (m_fault σ) fun σ15 =>
    m_instruction_145 σ15
def m_instruction_116 (σ : St) (x1 : Int32) (x4 : Int32) : St :=
  if x4 = 0 then
    bd (m_speak σ 2) fun σ13 =>
    m_instruction_134 σ13
  else
    bd (m_perform σ x1) fun σ16 =>
    m_instruction_134 σ16
def m_instruction_90 (σ : St) (x1 : Int32) (x3 : Int32) (y0 : Int32) : St :=
  if x3 = 0 then
    m_instruction_116 σ x1 y0
  else
    bd (up2 σ 5 (ix 11) 0) fun σ17 =>
    bd (up2 σ17 5 (ix 6) ((σ17 5 (ix 6)) ||| 32768)) fun σ18 =>
    m_instruction_116 σ18 x1 y0
def m_instruction_72 (σ : St) (x1 : Int32) (x3 : Int32) : St :=
  m_instruction_90 σ x1 x3 1
def m_instruction_55 (σ : St) (x1 : Int32) (x2 : Int32) (y0 : Int32) : St :=
  bd2 (m_isOpenWorld σ) fun σ7 v8 =>
  if v8 = 0 then
    if x2 = 1 then
      m_instruction_90 σ7 x1 y0 0
    else
      m_instruction_90 σ7 x1 y0 1
  else
    if x2 = 1 then
      m_instruction_72 σ7 x1 y0
    else
      if y0 = 0 then
        m_instruction_90 σ7 x1 y0 0
      else
        m_instruction_72 σ7 x1 y0
def m_instruction_54 (σ : St) (x1 : Int32) (x2 : Int32) : St :=
  m_instruction_55 σ x1 x2 0
def m_instruction (σ : St) : St :=
  bd (m_keep σ) fun σ1 =>
  bd2 (m_kindAt σ1 (σ1 5 (ix 7))) fun σ2 v3 =>
  bd2 (m_isOpenWorld σ2) fun σ4 v5 =>
  if v5 = 0 then
    m_instruction_54 σ4 (σ1 1 (ix (σ1 5 (ix 7)))) v3
  else
    if v3 = 2 then
      if ((σ1 1 (ix (σ1 5 (ix 7)))) >>> ((12 : Int32) &&& 31)) = 10 then
        m_instruction_55 σ4 (σ1 1 (ix (σ1 5 (ix 7)))) v3 1
      else
        m_instruction_54 σ4 (σ1 1 (ix (σ1 5 (ix 7)))) v3
    else
      m_instruction_54 σ4 (σ1 1 (ix (σ1 5 (ix 7)))) v3
def m_step_90 (σ : St) : St :=
  σ
def m_step_79 (σ : St) : St :=
  if (σ 0 11) = 0 then
    bd (m_instruction σ) fun σ12 =>
    m_step_90 σ12
  else
    m_step_90 σ
def m_step_5_2 (σ : St) (x1 : Int32) : St :=
  if x1 ≤ 0 then
    m_step_79 σ
  else
    bd (up2 σ 0 12 ((σ 0 12) &&& (((1 : Int32) <<< (x1 &&& 31)) ^^^ (-1)))) fun σ13 =>
    bd (m_take σ13 x1 (σ13 5 (ix 7))) fun σ14 =>
    m_step_79 σ14
def m_step_42_3 (σ : St) (y0 : Int32) : St :=
  m_step_5_2 σ y0
def m_step_41_3 (σ : St) (x1 : Int32) : St :=
  m_step_42_3 σ x1
def m_step_37_3 (σ : St) : St :=
  m_step_42_3 σ 3
def m_step_5_3 (σ : St) (x1 : Int32) : St :=
  if (((σ 0 12) >>> ((3 : Int32) &&& 31)) &&& 1) = 1 then
    if (σ 0 10) = 0 then
      m_step_37_3 σ
    else
      if (σ 0 10) ≤ 3 then
        m_step_41_3 σ x1
      else
        m_step_37_3 σ
  else
    m_step_41_3 σ x1
def m_step_42_4 (σ : St) (y0 : Int32) : St :=
  m_step_5_3 σ y0
def m_step_41_4 (σ : St) (x1 : Int32) : St :=
  m_step_42_4 σ x1
def m_step_37_4 (σ : St) : St :=
  m_step_42_4 σ 4
def m_step_5_4 (σ : St) (x1 : Int32) : St :=
  if (((σ 0 12) >>> ((4 : Int32) &&& 31)) &&& 1) = 1 then
    if (σ 0 10) = 0 then
      m_step_37_4 σ
    else
      if (σ 0 10) ≤ 4 then
        m_step_41_4 σ x1
      else
        m_step_37_4 σ
  else
    m_step_41_4 σ x1
def m_step_42_5 (σ : St) (y0 : Int32) : St :=
  m_step_5_4 σ y0
def m_step_41_5 (σ : St) (x1 : Int32) : St :=
  m_step_42_5 σ x1
def m_step_37_5 (σ : St) : St :=
  m_step_42_5 σ 5
def m_step_5_5 (σ : St) (x1 : Int32) : St :=
  if (((σ 0 12) >>> ((5 : Int32) &&& 31)) &&& 1) = 1 then
    if (σ 0 10) = 0 then
      m_step_37_5 σ
    else
      if (σ 0 10) ≤ 5 then
        m_step_41_5 σ x1
      else
        m_step_37_5 σ
  else
    m_step_41_5 σ x1
def m_step_42_6 (σ : St) (y0 : Int32) : St :=
  m_step_5_5 σ y0
def m_step_41_6 (σ : St) (x1 : Int32) : St :=
  m_step_42_6 σ x1
def m_step_37_6 (σ : St) : St :=
  m_step_42_6 σ 6
def m_step_5_6 (σ : St) (x1 : Int32) : St :=
  if (((σ 0 12) >>> ((6 : Int32) &&& 31)) &&& 1) = 1 then
    if (σ 0 10) = 0 then
      m_step_37_6 σ
    else
      if (σ 0 10) ≤ 6 then
        m_step_41_6 σ x1
      else
        m_step_37_6 σ
  else
    m_step_41_6 σ x1
def m_step (σ : St) : St :=
  m_step_5_6 σ 0
def m_word (σ : St) (a1 : Int32) : St × Int32 :=
  (σ, (σ 1 (ix (a1 &&& 255))))
def m_register_10 (σ : St) : St × Int32 :=
  (σ, (-1))
def m_register_68 (σ : St) (y0 : Int32) : St × Int32 :=
  (σ, y0)
def m_register (σ : St) (a1 : Int32) : St × Int32 :=
  if a1 < 0 then
    m_register_10 σ
  else
    if a1 ≤ 15 then
      if 12 ≤ a1 then
        if a1 = 12 then
          m_register_68 σ (σ 0 10)
        else
          if a1 = 13 then
            m_register_68 σ (σ 0 11)
          else
            if a1 = 14 then
              m_register_68 σ (σ 0 12)
            else
              m_register_68 σ (σ 0 13)
      else
        (σ, (σ 5 (ix a1)))
    else
      m_register_10 σ
def m_kind (σ : St) (a1 : Int32) : St × Int32 :=
  bd2 (m_kindAt σ a1) fun σ1 v2 =>
  (σ1, v2)
def itr (f : St → St) : Nat → St → St
  | 0, σ => σ
  | j + 1, σ => itr f j (f σ)
def k_region_63 : Nat → St → Int32 → St × Int32
  | 0, σ, _ => (σ, 1)
  | f + 1, σ, x => bd2 (k_kindByRegions σ x) fun σ1 v2 => bd (up2 σ1 2 (ix x) v2) fun σ3 => k_region_63 f σ3 (x + 1)
def k_region (σ : St) (a1 a2 a3 a4 : Int32) : St × Int32 :=
  if a1 < 0 then (σ, 0) else if 4 ≤ a1 then (σ, 0) else if a4 < 0 then (σ, 0) else if a4 ≤ 2 then
    bd2 (k_isAddress σ a2) fun σ5 v6 => if v6 = 0 then (σ5, 0) else
    bd2 (k_isAddress σ5 a3) fun σ8 v9 => if v9 = 0 then (σ8, 0) else
    bd (up2 σ8 3 (ix a1) a2) fun σ11 =>
    bd (up2 σ11 4 (ix a1) a3) fun σ12 =>
    bd (up2 σ12 5 (ix a1) a4) fun σ13 =>
    k_region_63 256 σ13 0
  else (σ, 0)
def k_run_15 : Nat → St → Int32 → St × Int32
  | 0, σ, x => (σ, x)
  | f + 1, σ, x => if (σ 0 11) = 0 then bd (k_step σ) fun σ1 => k_run_15 f σ1 (x + 1) else (σ, x)
def k_run (σ : St) (a1 : Int32) : St × Int32 := if a1 < 0 then (σ, (-1)) else if a1 ≤ 200 then k_run_15 (ix a1) σ 0 else (σ, (-1))
def m_run_15 : Nat → St → Int32 → St × Int32
  | 0, σ, x => (σ, x)
  | f + 1, σ, x => if (σ 0 11) = 0 then bd (m_step σ) fun σ1 => m_run_15 f σ1 (x + 1) else (σ, x)
def m_run (σ : St) (a1 : Int32) : St × Int32 := if a1 < 0 then (σ, (-1)) else if a1 ≤ 200 then m_run_15 (ix a1) σ 0 else (σ, (-1))
abbrev actOK (σ : St) : Prop := bt0 (σ 6 6) 7
abbrev pcOK (σ : St) : Prop := vp_in (σ 5 (ix 7)) 256
