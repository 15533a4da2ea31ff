/-! the methods as pure functions, by program out of the bytecode -/
/-- ImageChecker$Tables.bitCell(II)I -/
def fX5_bitCell (p0 : Int32) (p1 : Int32) : Option Int32 :=
  jn (fun (y1 : Int32) =>
    some ((y1 + p1) - 1)
    ) (fun j13 =>
  if p0 = 0 then (
    j13 1128
    ) else (
    j13 1328
    )
  )
/-- ImageChecker$Tables.putBit(III)V -/
def fX5_putBit (p0 : Int32) (p1 : Int32) (p2 : Int32) (σ : ck_S) : Option ck_S :=
  (fX5_bitCell p0 p1).bind fun v1 =>
  (ck_wr_cells σ v1 p2).bind fun σ2 =>
  some σ2
/-- ImageChecker$Tables.fileCell(I)I -/
def fX5_fileCell (p0 : Int32) : Option Int32 :=
  some ((p0 - 1) * 47)
/-- ImageChecker$Tables.number(II)I -/
def fX5_number (p0 : Int32) (p1 : Int32) (σ : ck_S) : Option Int32 :=
  (fX5_fileCell p0).bind fun v1 =>
  (ck_rd_cells σ (v1 + p1)).bind fun v2 =>
  some v2
/-- ImageChecker$Tables.runCell(II)I -/
def fX5_runCell (p0 : Int32) (p1 : Int32) : Option Int32 :=
  some ((((p0 - 1) * 47) + 5) + (p1 * 3))
/-- ImageChecker$Tables.runPart(III)I -/
def fX5_runPart (p0 : Int32) (p1 : Int32) (p2 : Int32) (σ : ck_S) : Option Int32 :=
  (fX5_runCell p0 p1).bind fun v1 =>
  (ck_rd_cells σ (v1 + p2)).bind fun v2 =>
  some v2
/-- ImageChecker$BitPass.takeBlocks(LImageChecker$Tables;II)V -/
def fX0_takeBlocks (p1 : Int32) (p2 : Int32) (σ : ck_S) : Option ck_S :=
  qp2 FU (fun rec2 (x1 : Int32) (σ2 : ck_S) =>
    if p2 ≤ x1 then (
      some σ2
      ) else (
      if 64 ≤ x1 then (
        some σ2
        ) else (
        if (p1 + x1) < 1 then (
          rec2 (x1 + 1) σ2
          ) else (
          if 200 < (p1 + x1) then (
            rec2 (x1 + 1) σ2
            ) else (
            (fX5_putBit 0 (p1 + x1) 1 σ2).bind fun σ7 =>
            rec2 (x1 + 1) σ7
            )
          )
        )
      )
    ) 0 σ
/-- ImageChecker$Tables.bitOf(II)I -/
def fX5_bitOf (p0 : Int32) (p1 : Int32) (σ : ck_S) : Option Int32 :=
  (fX5_bitCell p0 p1).bind fun v1 =>
  (ck_rd_cells σ v1).bind fun v2 =>
  some v2
/-- ImageChecker$BitPass.countFree(LImageChecker$Tables;II)I -/
def fX0_countFree (p1 : Int32) (p2 : Int32) (σ : ck_S) : Option Int32 :=
  qp2 FU (fun rec5 (x1 : Int32) (x2 : Int32) =>
    if p2 < x2 then (
      some x1
      ) else (
      (fX5_bitOf p1 x2 σ).bind fun v4 =>
      if v4 = 0 then (
        rec5 (x1 + 1) (x2 + 1)
        ) else (
        rec5 x1 (x2 + 1)
        )
      )
    ) 0 1
/-- ImageChecker$Tables.putTold(II)V -/
def fX5_putTold (p0 : Int32) (p1 : Int32) (σ : ck_S) : Option ck_S :=
  (ck_wr_cells σ (1352 + p0) p1).bind fun σ1 =>
  some σ1
/-- ImageChecker$BitPass.mend(LImageChecker$Tables;)V -/
def fX0_mend (σ : ck_S) : Option ck_S :=
  qp2 FU (fun rec2 (x1 : Int32) (σ2 : ck_S) =>
    if 200 < x1 then (
      qp2 FU (fun rec34 (x4 : Int32) (σ5 : ck_S) =>
        if 24 < x4 then (
          (fX0_countFree 0 200 σ5).bind fun v7 =>
          (fX5_putTold 0 v7 σ5).bind fun σ8 =>
          (fX0_countFree 1 24 σ8).bind fun v9 =>
          (fX5_putTold 1 v9 σ8).bind fun σ10 =>
          some σ10
          ) else (
          (fX5_number x4 0 σ5).bind fun v11 =>
          jn (fun (y12 : Int32) =>
            (fX5_putBit 1 x4 y12 σ5).bind fun σ13 =>
            qp2 FU (fun rec62 (x14 : Int32) (σ15 : ck_S) =>
              if 6 ≤ x14 then (
                rec34 (x4 + 1) σ15
                ) else (
                (fX5_runPart x4 x14 2 σ15).bind fun v17 =>
                (fX5_runPart x4 x14 1 σ15).bind fun v18 =>
                (fX0_takeBlocks v17 v18 σ15).bind fun σ19 =>
                rec62 (x14 + 1) σ19
                )
              ) 0 σ13
            ) (fun j57 =>
          if v11 = 0 then (
            j57 0
            ) else (
            j57 1
            )
          ))
        ) 1 σ2
      ) else (
      jn (fun (y21 : Int32) =>
        (fX5_putBit 0 x1 y21 σ2).bind fun σ22 =>
        rec2 (x1 + 1) σ22
        ) (fun j23 =>
      if 8 < x1 then (
        j23 0
        ) else (
        j23 1
        )
      ))
    ) 1 σ
/-- ImageChecker.unmark([Z)V -/
def fX7_unmark_4 (σ : ck_S) : Option ck_S :=
  qp2 FU (fun rec2 (x1 : Int32) (σ2 : ck_S) =>
    if 25 ≤ x1 then (
      some σ2
      ) else (
      (ck_wr_held σ2 x1 0).bind fun σ4 =>
      rec2 (x1 + 1) σ4
      )
    ) 0 σ
/-- ImageChecker.unmark([Z)V -/
def fX7_unmark_6 (σ : ck_S) : Option ck_S :=
  qp2 FU (fun rec2 (x1 : Int32) (σ2 : ck_S) =>
    if 201 ≤ x1 then (
      some σ2
      ) else (
      (ck_wr_inRuns σ2 x1 0).bind fun σ4 =>
      rec2 (x1 + 1) σ4
      )
    ) 0 σ
/-- ImageChecker.unmark([Z)V -/
def fX7_unmark_8 (σ : ck_S) : Option ck_S :=
  qp2 FU (fun rec2 (x1 : Int32) (σ2 : ck_S) =>
    if 25 ≤ x1 then (
      some σ2
      ) else (
      (ck_wr_hasEntry σ2 x1 0).bind fun σ4 =>
      rec2 (x1 + 1) σ4
      )
    ) 0 σ
/-- ImageChecker.unmark([Z)V -/
def fX7_unmark_10 (σ : ck_S) : Option ck_S :=
  qp2 FU (fun rec2 (x1 : Int32) (σ2 : ck_S) =>
    if 25 ≤ x1 then (
      some σ2
      ) else (
      (ck_wr_reached σ2 x1 0).bind fun σ4 =>
      rec2 (x1 + 1) σ4
      )
    ) 0 σ
/-- ImageChecker.unmark([Z)V -/
def fX7_unmark_13 (σ : ck_S) : Option ck_S :=
  qp2 FU (fun rec2 (x1 : Int32) (σ2 : ck_S) =>
    if 25 ≤ x1 then (
      some σ2
      ) else (
      (ck_wr_came σ2 x1 0).bind fun σ4 =>
      rec2 (x1 + 1) σ4
      )
    ) 0 σ
/-- ImageChecker.unmark([Z)V -/
def fX7_unmark_14 (σ : ck_S) : Option ck_S :=
  qp2 FU (fun rec2 (x1 : Int32) (σ2 : ck_S) =>
    if 25 ≤ x1 then (
      some σ2
      ) else (
      (ck_wr_rightly σ2 x1 0).bind fun σ4 =>
      rec2 (x1 + 1) σ4
      )
    ) 0 σ
/-- ImageChecker$Tables.entryCell(II)I -/
def fX5_entryCell (p0 : Int32) (p1 : Int32) : Option Int32 :=
  some ((((p0 - 1) * 47) + 23) + (p1 * 3))
/-- ImageChecker$Tables.entryPart(III)I -/
def fX5_entryPart (p0 : Int32) (p1 : Int32) (p2 : Int32) (σ : ck_S) : Option Int32 :=
  (fX5_entryCell p0 p1).bind fun v1 =>
  (ck_rd_cells σ (v1 + p2)).bind fun v2 =>
  some v2
/-- ImageChecker$Tables.placeOfName(III)I -/
def fX5_placeOfName (p0 : Int32) (p1 : Int32) (p2 : Int32) (σ : ck_S) : Option Int32 :=
  qp1 FU (fun rec3 (x1 : Int32) =>
    if p1 ≤ x1 then (
      some p1
      ) else (
      (fX5_entryPart p0 x1 0 σ).bind fun v3 =>
      if v3 = p2 then (
        some x1
        ) else (
        rec3 (x1 + 1)
        )
      )
    ) 0
/-- ImageChecker$FolderPass.isNameRight(LImageChecker$Tables;III)Z -/
def fX1_isNameRight (p1 : Int32) (p2 : Int32) (p3 : Int32) (σ : ck_S) : Option Int32 :=
  if p3 < 1 then (
    some 0
    ) else (
    if 255 < p3 then (
      some 0
      ) else (
      (fX5_placeOfName p1 p2 p3 σ).bind fun v3 =>
      if v3 = p2 then (
        some 1
        ) else (
        some 0
        )
      )
    )
/-- ImageChecker.isFile(I)Z -/
def fX7_isFile (p0 : Int32) : Option Int32 :=
  if p0 < 1 then (
    some 0
    ) else (
    if 24 < p0 then (
      some 0
      ) else (
      some 1
      )
    )
/-- ImageChecker$FolderPass.mayLeadTo(LImageChecker$Tables;I)Z -/
def fX1_mayLeadTo (p1 : Int32) (σ : ck_S) : Option Int32 :=
  (fX7_isFile p1).bind fun v1 =>
  if v1 = 0 then (
    some 0
    ) else (
    if p1 = 1 then (
      some 0
      ) else (
      (fX5_number p1 0 σ).bind fun v4 =>
      if v4 = 0 then (
        some 0
        ) else (
        if v4 = 2 then (
          (ck_rd_hasEntry σ p1).bind fun v7 =>
          if v7 = 0 then (
            some 1
            ) else (
            some 0
            )
          ) else (
          some 1
          )
        )
      )
    )
/-- ImageChecker$Tables.putEntry(IIIII)V -/
def fX5_putEntry (p0 : Int32) (p1 : Int32) (p2 : Int32) (p3 : Int32) (p4 : Int32) (σ : ck_S) : Option ck_S :=
  (fX5_entryCell p0 p1).bind fun v1 =>
  (ck_wr_cells σ (v1 + 0) p2).bind fun σ2 =>
  (ck_wr_cells σ2 (v1 + 1) p3).bind fun σ3 =>
  (ck_wr_cells σ3 (v1 + 2) p4).bind fun σ4 =>
  some σ4
/-- ImageChecker$Tables.wipeCells(II)V -/
def fX5_wipeCells (p0 : Int32) (p1 : Int32) (σ : ck_S) : Option ck_S :=
  qp2 FU (fun rec2 (x1 : Int32) (σ2 : ck_S) =>
    if p1 ≤ x1 then (
      some σ2
      ) else (
      (ck_wr_cells σ2 x1 0).bind fun σ4 =>
      rec2 (x1 + 1) σ4
      )
    ) p0 σ
/-- ImageChecker$Tables.wipeEntriesFrom(II)V -/
def fX5_wipeEntriesFrom (p0 : Int32) (p1 : Int32) (σ : ck_S) : Option ck_S :=
  (fX5_entryCell p0 p1).bind fun v1 =>
  (fX5_entryCell p0 8).bind fun v2 =>
  (fX5_wipeCells v1 v2 σ).bind fun σ3 =>
  some σ3
/-- ImageChecker$FolderPass.mendFolder(LImageChecker$Tables;I)V -/
def fX1_mendFolder (p1 : Int32) (σ : ck_S) : Option ck_S :=
  qp3 FU (fun rec5 (x1 : Int32) (x2 : Int32) (σ3 : ck_S) =>
    if 8 ≤ x2 then (
      (fX5_wipeEntriesFrom p1 x1 σ3).bind fun σ5 =>
      some σ5
      ) else (
      (fX5_entryPart p1 x2 0 σ3).bind fun v6 =>
      (fX5_entryPart p1 x2 1 σ3).bind fun v7 =>
      (fX1_isNameRight p1 x1 v6 σ3).bind fun v8 =>
      if v8 = 0 then (
        rec5 x1 (x2 + 1) σ3
        ) else (
        (fX1_mayLeadTo v7 σ3).bind fun v10 =>
        if v10 = 0 then (
          rec5 x1 (x2 + 1) σ3
          ) else (
          (ck_wr_hasEntry σ3 v7 1).bind fun σ12 =>
          (fX5_number v7 0 σ12).bind fun v13 =>
          (fX5_putEntry p1 x1 v6 v7 v13 σ12).bind fun σ14 =>
          rec5 (x1 + 1) (x2 + 1) σ14
          )
        )
      )
    ) 0 0 σ
/-- ImageChecker$FolderPass.mend(LImageChecker$Tables;)V -/
def fX1_mend (σ : ck_S) : Option ck_S :=
  (fX7_unmark_8 σ).bind fun σ1 =>
  qp2 FU (fun rec9 (x2 : Int32) (σ3 : ck_S) =>
    if 24 < x2 then (
      some σ3
      ) else (
      (fX5_number x2 0 σ3).bind fun v5 =>
      if v5 = 2 then (
        (fX1_mendFolder x2 σ3).bind fun σ7 =>
        rec9 (x2 + 1) σ7
        ) else (
        rec9 (x2 + 1) σ3
        )
      )
    ) 1 σ1
/-- ImageChecker$HangingPass.reach(I)V -/
def fX2_reach (p0 : Int32) (σ : ck_S) : Option ck_S :=
  (fX7_isFile p0).bind fun v1 =>
  if v1 = 0 then (
    some σ
    ) else (
    (ck_rd_reached σ p0).bind fun v3 =>
    if v3 = 0 then (
      if 24 ≤ (ck_queued σ) then (
        some σ
        ) else (
        (ck_wr_reached σ p0 1).bind fun σ6 =>
        (ck_wr_queue σ6 (ck_queued σ6) p0).bind fun σ7 =>
        (some (ck_set_queued σ7 ((ck_queued σ7) + 1))).bind fun σ8 =>
        some σ8
        )
      ) else (
      some σ
      )
    )
/-- ImageChecker$HangingPass.reachFrom(LImageChecker$Tables;I)V -/
def fX2_reachFrom (p1 : Int32) (σ : ck_S) : Option ck_S :=
  (some (ck_set_queued σ 0)).bind fun σ1 =>
  (fX2_reach p1 σ1).bind fun σ2 =>
  qp2 FU (fun rec12 (x3 : Int32) (σ4 : ck_S) =>
    if (ck_queued σ4) ≤ x3 then (
      some σ4
      ) else (
      if 24 ≤ x3 then (
        some σ4
        ) else (
        qp2 FU (fun rec29 (x7 : Int32) (σ8 : ck_S) =>
          if 8 ≤ x7 then (
            rec12 (x3 + 1) σ8
            ) else (
            (ck_rd_queue σ8 x3).bind fun v10 =>
            (fX5_entryPart v10 x7 1 σ8).bind fun v11 =>
            (fX2_reach v11 σ8).bind fun σ12 =>
            rec29 (x7 + 1) σ12
            )
          ) 0 σ4
        )
      )
    ) 0 σ2
/-- ImageChecker$WaitingList.isRightlyIn(I)Z -/
def fX6_isRightlyIn (p0 : Int32) (σ : ck_S) : Option Int32 :=
  (ck_rd_rightly σ p0).bind fun v1 =>
  ik_zb v1
/-- ImageChecker$Tables.moveEntry(III)V -/
def fX5_moveEntry (p0 : Int32) (p1 : Int32) (p2 : Int32) (σ : ck_S) : Option ck_S :=
  (fX5_entryPart p0 p1 0 σ).bind fun v1 =>
  (fX5_entryPart p0 p1 1 σ).bind fun v2 =>
  (fX5_entryPart p0 p1 2 σ).bind fun v3 =>
  (fX5_putEntry p0 p2 v1 v2 v3 σ).bind fun σ4 =>
  some σ4
/-- ImageChecker$Tables.dropEntriesFor(I)V -/
def fX5_dropEntriesFor (p0 : Int32) (σ : ck_S) : Option ck_S :=
  qp2 FU (fun rec2 (x1 : Int32) (σ2 : ck_S) =>
    if 24 < x1 then (
      some σ2
      ) else (
      qp3 FU (fun rec13 (x4 : Int32) (x5 : Int32) (σ6 : ck_S) =>
        if 8 ≤ x5 then (
          (fX5_wipeEntriesFrom x1 x4 σ6).bind fun σ8 =>
          rec2 (x1 + 1) σ8
          ) else (
          (fX5_entryPart x1 x5 1 σ6).bind fun v9 =>
          if v9 = p0 then (
            rec13 x4 (x5 + 1) σ6
            ) else (
            (fX5_moveEntry x1 x5 x4 σ6).bind fun σ11 =>
            rec13 (x4 + 1) (x5 + 1) σ11
            )
          )
        ) 0 0 σ2
      )
    ) 1 σ
/-- ImageChecker$Tables.wipeFile(I)V -/
def fX5_wipeFile (p0 : Int32) (σ : ck_S) : Option ck_S :=
  (fX5_fileCell p0).bind fun v1 =>
  (fX5_fileCell p0).bind fun v2 =>
  (fX5_wipeCells v1 (v2 + 47) σ).bind fun σ3 =>
  some σ3
/-- ImageChecker$HangingPass.leastNewName(LImageChecker$Tables;I)I -/
def fX2_leastNewName (p1 : Int32) (σ : ck_S) : Option Int32 :=
  qp1 FU (fun rec2 (x1 : Int32) =>
    if p1 < x1 then (
      some x1
      ) else (
      (fX5_placeOfName 1 p1 x1 σ).bind fun v3 =>
      if p1 ≤ v3 then (
        some x1
        ) else (
        rec2 (x1 + 1)
        )
      )
    ) 1
/-- ImageChecker$HangingPass.hangInRoot(LImageChecker$Tables;I)V -/
def fX2_hangInRoot (p1 : Int32) (σ : ck_S) : Option ck_S :=
  (fX5_dropEntriesFor p1 σ).bind fun σ1 =>
  (fX5_placeOfName 1 8 0 σ1).bind fun v2 =>
  if v2 < 8 then (
    (fX2_leastNewName v2 σ1).bind fun v4 =>
    (fX5_number p1 0 σ1).bind fun v5 =>
    (fX5_putEntry 1 v2 v4 p1 v5 σ1).bind fun σ6 =>
    (fX2_reachFrom p1 σ6).bind fun σ7 =>
    some σ7
    ) else (
    (fX5_wipeFile p1 σ1).bind fun σ8 =>
    some σ8
    )
/-- ImageChecker$HangingPass.mend(LImageChecker$Tables;LImageChecker$WaitingList;[Z)V -/
def fX2_mend (σ : ck_S) : Option ck_S :=
  (fX7_unmark_10 σ).bind fun σ1 =>
  (fX2_reachFrom 1 σ1).bind fun σ2 =>
  qp2 FU (fun rec16 (x3 : Int32) (σ4 : ck_S) =>
    if 24 < x3 then (
      some σ4
      ) else (
      (fX5_number x3 0 σ4).bind fun v6 =>
      if v6 = 0 then (
        rec16 (x3 + 1) σ4
        ) else (
        (ck_rd_reached σ4 x3).bind fun v8 =>
        if v8 = 0 then (
          (fX6_isRightlyIn x3 σ4).bind fun v10 =>
          if v10 = 0 then (
            (fX2_hangInRoot x3 σ4).bind fun σ15 =>
            rec16 (x3 + 1) σ15
            ) else (
            (ck_rd_held σ4 x3).bind fun v12 =>
            if v12 = 0 then (
              (fX5_wipeFile x3 σ4).bind fun σ14 =>
              rec16 (x3 + 1) σ14
              ) else (
              rec16 (x3 + 1) σ4
              )
            )
          ) else (
          rec16 (x3 + 1) σ4
          )
        )
      )
    ) 1 σ2
/-- ImageChecker$Tables.countEntriesFor(I)I -/
def fX5_countEntriesFor (p0 : Int32) (σ : ck_S) : Option Int32 :=
  qp2 FU (fun rec4 (x1 : Int32) (x2 : Int32) =>
    if 24 < x2 then (
      some x1
      ) else (
      qp2 FU (fun rec13 (x4 : Int32) (x5 : Int32) =>
        if 8 ≤ x5 then (
          rec4 x4 (x2 + 1)
          ) else (
          (fX5_entryPart x2 x5 1 σ).bind fun v7 =>
          if v7 = p0 then (
            rec13 (x4 + 1) (x5 + 1)
            ) else (
            rec13 x4 (x5 + 1)
            )
          )
        ) x1 0
      )
    ) 0 1
/-- ImageChecker$LinkPass.isFolder(LImageChecker$Tables;I)Z -/
def fX3_isFolder (p1 : Int32) (σ : ck_S) : Option Int32 :=
  (fX7_isFile p1).bind fun v1 =>
  if v1 = 0 then (
    some 0
    ) else (
    (fX5_number p1 0 σ).bind fun v3 =>
    if v3 = 2 then (
      some 1
      ) else (
      some 0
      )
    )
/-- ImageChecker$LinkPass.linksOf(LImageChecker$Tables;I)I -/
def fX3_linksOf (p1 : Int32) (σ : ck_S) : Option Int32 :=
  (fX5_number p1 0 σ).bind fun v1 =>
  if v1 = 2 then (
    qp2 FU (fun rec20 (x3 : Int32) (x4 : Int32) =>
      if 8 ≤ x4 then (
        some x3
        ) else (
        (fX5_entryPart p1 x4 1 σ).bind fun v6 =>
        (fX3_isFolder v6 σ).bind fun v7 =>
        if v7 = 0 then (
          rec20 x3 (x4 + 1)
          ) else (
          rec20 (x3 + 1) (x4 + 1)
          )
        )
      ) 2 0
    ) else (
    (fX5_countEntriesFor p1 σ).bind fun v9 =>
    some v9
    )
/-- ImageChecker$Tables.putNumber(III)V -/
def fX5_putNumber (p0 : Int32) (p1 : Int32) (p2 : Int32) (σ : ck_S) : Option ck_S :=
  (fX5_fileCell p0).bind fun v1 =>
  (ck_wr_cells σ (v1 + p1) p2).bind fun σ2 =>
  some σ2
/-- ImageChecker$LinkPass.becomeParent(LImageChecker$Tables;I)V -/
def fX3_becomeParent (p1 : Int32) (σ : ck_S) : Option ck_S :=
  qp2 FU (fun rec2 (x1 : Int32) (σ2 : ck_S) =>
    if 8 ≤ x1 then (
      some σ2
      ) else (
      (fX5_entryPart p1 x1 1 σ2).bind fun v4 =>
      (fX3_isFolder v4 σ2).bind fun v5 =>
      if v5 = 0 then (
        rec2 (x1 + 1) σ2
        ) else (
        (fX5_putNumber v4 4 p1 σ2).bind fun σ7 =>
        rec2 (x1 + 1) σ7
        )
      )
    ) 0 σ
/-- ImageChecker$WaitingList.fileAt(I)I -/
def fX6_fileAt (p0 : Int32) (σ : ck_S) : Option Int32 :=
  if p0 < 0 then (
    some 0
    ) else (
    if (ck_count σ) ≤ p0 then (
      some 0
      ) else (
      (ck_rd_waitOn σ p0).bind fun v3 =>
      some v3
      )
    )
/-- ImageChecker$WaitingList.size()I -/
def fX6_size (σ : ck_S) : Option Int32 :=
  some (ck_count σ)
/-- ImageChecker$LinkPass.mendWaiting(LImageChecker$Tables;LImageChecker$WaitingList;)V -/
def fX3_mendWaiting (σ : ck_S) : Option ck_S :=
  (fX6_fileAt 0 σ).bind fun v1 =>
  (fX5_putTold 2 v1 σ).bind fun σ2 =>
  qp2 FU (fun rec12 (x3 : Int32) (σ4 : ck_S) =>
    (fX6_size σ4).bind fun v5 =>
    if v5 ≤ x3 then (
      some σ4
      ) else (
      (fX6_fileAt x3 σ4).bind fun v7 =>
      (fX6_fileAt (x3 + 1) σ4).bind fun v8 =>
      (fX5_putNumber v7 3 v8 σ4).bind fun σ9 =>
      rec12 (x3 + 1) σ9
      )
    ) 0 σ2
/-- ImageChecker$LinkPass.mend(LImageChecker$Tables;LImageChecker$WaitingList;)V -/
def fX3_mend (σ : ck_S) : Option ck_S :=
  qp2 FU (fun rec2 (x1 : Int32) (σ2 : ck_S) =>
    if 24 < x1 then (
      qp2 FU (fun rec41 (x4 : Int32) (σ5 : ck_S) =>
        if 24 < x4 then (
          (fX5_putNumber 1 4 1 σ5).bind fun σ7 =>
          (fX3_mendWaiting σ7).bind fun σ8 =>
          some σ8
          ) else (
          (fX3_becomeParent x4 σ5).bind fun σ9 =>
          rec41 (x4 + 1) σ9
          )
        ) 1 σ2
      ) else (
      (fX3_linksOf x1 σ2).bind fun v10 =>
      (fX5_putNumber x1 2 v10 σ2).bind fun σ11 =>
      (fX5_putNumber x1 4 0 σ11).bind fun σ12 =>
      (fX5_putNumber x1 3 0 σ12).bind fun σ13 =>
      rec2 (x1 + 1) σ13
      )
    ) 1 σ
/-- ImageChecker$Tables.wipeRunsFrom(II)V -/
def fX5_wipeRunsFrom (p0 : Int32) (p1 : Int32) (σ : ck_S) : Option ck_S :=
  (fX5_runCell p0 p1).bind fun v1 =>
  (fX5_runCell p0 6).bind fun v2 =>
  (fX5_wipeCells v1 v2 σ).bind fun σ3 =>
  some σ3
/-- ImageChecker$RecordPass.makeRootEmpty(LImageChecker$Tables;)V -/
def fX4_makeRootEmpty (σ : ck_S) : Option ck_S :=
  (fX5_putNumber 1 0 2 σ).bind fun σ1 =>
  (fX5_putNumber 1 1 0 σ1).bind fun σ2 =>
  (fX5_wipeRunsFrom 1 0 σ2).bind fun σ3 =>
  (fX5_wipeEntriesFrom 1 0 σ3).bind fun σ4 =>
  some σ4
/-- ImageChecker$RecordPass.isRight(III)Z -/
def fX4_isRight (p0 : Int32) (p1 : Int32) (p2 : Int32) : Option Int32 :=
  if p1 < 1 then (
    some 0
    ) else (
    if 64 < p1 then (
      some 0
      ) else (
      if p0 < 0 then (
        some 0
        ) else (
        if (64 - p1) < p0 then (
          some 0
          ) else (
          if p2 ≤ 8 then (
            some 0
            ) else (
            if (201 - p1) < p2 then (
              some 0
              ) else (
              some 1
              )
            )
          )
        )
      )
    )
/-- ImageChecker$RecordPass.greatestEnd(LImageChecker$Tables;I)I -/
def fX4_greatestEnd (p1 : Int32) (σ : ck_S) : Option Int32 :=
  qp2 FU (fun rec5 (x1 : Int32) (x2 : Int32) =>
    if 6 ≤ x2 then (
      some x1
      ) else (
      (fX5_runPart p1 x2 0 σ).bind fun v4 =>
      (fX5_runPart p1 x2 1 σ).bind fun v5 =>
      (fX5_runPart p1 x2 2 σ).bind fun v6 =>
      (fX4_isRight v4 v5 v6).bind fun v7 =>
      if v7 = 0 then (
        rec5 x1 (x2 + 1)
        ) else (
        (some (if x1 < (v4 + v5) then (v4 + v5) else x1)).bind fun v9 =>
        rec5 v9 (x2 + 1)
        )
      )
    ) 0 0
/-- ImageChecker$RecordPass.mendSize(LImageChecker$Tables;I)V -/
def fX4_mendSize (p1 : Int32) (σ : ck_S) : Option ck_S :=
  (fX5_number p1 1 σ).bind fun v1 =>
  jn (fun (_u : Unit) =>
    (fX4_greatestEnd p1 σ).bind fun v2 =>
    (fX5_putNumber p1 1 (1024 * v2) σ).bind fun σ3 =>
    some σ3
    ) (fun j17 =>
  if v1 < 0 then (
    j17 ()
    ) else (
    if v1 ≤ 65536 then (
      some σ
      ) else (
      j17 ()
      )
    )
  )
/-- ImageChecker$RecordPass.isAnyInRuns(II)Z -/
def fX4_isAnyInRuns (p0 : Int32) (p1 : Int32) (σ : ck_S) : Option Int32 :=
  qp1 FU (fun rec2 (x1 : Int32) =>
    if p1 ≤ x1 then (
      some 0
      ) else (
      (ck_rd_inRuns σ (p0 + x1)).bind fun v3 =>
      if v3 = 0 then (
        rec2 (x1 + 1)
        ) else (
        some 1
        )
      )
    ) 0
/-- ImageChecker$RecordPass.markInRuns(II)V -/
def fX4_markInRuns (p0 : Int32) (p1 : Int32) (σ : ck_S) : Option ck_S :=
  qp2 FU (fun rec2 (x1 : Int32) (σ2 : ck_S) =>
    if p1 ≤ x1 then (
      some σ2
      ) else (
      (ck_wr_inRuns σ2 (p0 + x1) 1).bind fun σ4 =>
      rec2 (x1 + 1) σ4
      )
    ) 0 σ
/-- ImageChecker$Tables.putRun(IIIII)V -/
def fX5_putRun (p0 : Int32) (p1 : Int32) (p2 : Int32) (p3 : Int32) (p4 : Int32) (σ : ck_S) : Option ck_S :=
  (fX5_runCell p0 p1).bind fun v1 =>
  (ck_wr_cells σ (v1 + 0) p2).bind fun σ2 =>
  (ck_wr_cells σ2 (v1 + 1) p3).bind fun σ3 =>
  (ck_wr_cells σ3 (v1 + 2) p4).bind fun σ4 =>
  some σ4
/-- ImageChecker$RecordPass.mendRuns(LImageChecker$Tables;I)V -/
def fX4_mendRuns (p1 : Int32) (σ : ck_S) : Option ck_S :=
  (fX5_number p1 1 σ).bind fun v1 =>
  qp4 FU (fun rec26 (x2 : Int32) (x3 : Int32) (x4 : Int32) (σ5 : ck_S) =>
    if 6 ≤ x4 then (
      (fX5_wipeRunsFrom p1 x2 σ5).bind fun σ7 =>
      some σ7
      ) else (
      (fX5_runPart p1 x4 0 σ5).bind fun v8 =>
      (fX5_runPart p1 x4 1 σ5).bind fun v9 =>
      (fX5_runPart p1 x4 2 σ5).bind fun v10 =>
      (fX4_isRight v8 v9 v10).bind fun v11 =>
      if v11 = 0 then (
        rec26 x2 x3 (x4 + 1) σ5
        ) else (
        (some (if ((((v1 + 1024) - 1) / 1024) - v8) < v9 then ((((v1 + 1024) - 1) / 1024) - v8) else v9)).bind fun v13 =>
        if v13 < 1 then (
          rec26 x2 x3 (x4 + 1) σ5
          ) else (
          if v8 < x3 then (
            rec26 x2 x3 (x4 + 1) σ5
            ) else (
            (fX4_isAnyInRuns v10 v13 σ5).bind fun v16 =>
            if v16 = 0 then (
              (fX4_markInRuns v10 v13 σ5).bind fun σ18 =>
              (fX5_putRun p1 x2 v8 v13 v10 σ18).bind fun σ19 =>
              rec26 (x2 + 1) (v8 + v13) (x4 + 1) σ19
              ) else (
              rec26 x2 x3 (x4 + 1) σ5
              )
            )
          )
        )
      )
    ) 0 0 0 σ
/-- ImageChecker$RecordPass.mendRecord(LImageChecker$Tables;I)V -/
def fX4_mendRecord (p1 : Int32) (σ : ck_S) : Option ck_S :=
  (fX5_number p1 0 σ).bind fun v1 =>
  jn (fun (_u : Unit) =>
    (fX5_wipeFile p1 σ).bind fun σ2 =>
    some σ2
    ) (fun j16 =>
  if v1 ≤ 0 then (
    j16 ()
    ) else (
    if v1 ≤ 3 then (
      (fX4_mendSize p1 σ).bind fun σ5 =>
      (fX4_mendRuns p1 σ5).bind fun σ6 =>
      if v1 = 2 then (
        some σ6
        ) else (
        (fX5_wipeEntriesFrom p1 0 σ6).bind fun σ8 =>
        some σ8
        )
      ) else (
      j16 ()
      )
    )
  )
/-- ImageChecker$RecordPass.mend(LImageChecker$Tables;)V -/
def fX4_mend (σ : ck_S) : Option ck_S :=
  (fX7_unmark_6 σ).bind fun σ1 =>
  (fX5_number 1 0 σ1).bind fun v2 =>
  if v2 = 2 then (
    qp2 FU (fun rec24 (x4 : Int32) (σ5 : ck_S) =>
      if 24 < x4 then (
        some σ5
        ) else (
        (fX4_mendRecord x4 σ5).bind fun σ7 =>
        rec24 (x4 + 1) σ7
        )
      ) 1 σ1
    ) else (
    (fX4_makeRootEmpty σ1).bind fun σ8 =>
    qp2 FU (fun rec24 (x9 : Int32) (σ10 : ck_S) =>
      if 24 < x9 then (
        some σ10
        ) else (
        (fX4_mendRecord x9 σ10).bind fun σ12 =>
        rec24 (x9 + 1) σ12
        )
      ) 1 σ8
    )
/-- ImageChecker$Tables.makeWhole()V -/
def fX5_makeWhole (σ : ck_S) : Option ck_S :=
  (fX5_wipeCells 0 1355 σ).bind fun σ1 =>
  (fX5_putNumber 1 0 2 σ1).bind fun σ2 =>
  (fX5_putNumber 1 2 2 σ2).bind fun σ3 =>
  (fX5_putNumber 1 4 1 σ3).bind fun σ4 =>
  qp2 FU (fun rec31 (x5 : Int32) (σ6 : ck_S) =>
    if 8 < x5 then (
      (fX5_putBit 1 1 1 σ6).bind fun σ8 =>
      (fX5_putTold 0 192 σ8).bind fun σ9 =>
      (fX5_putTold 1 23 σ9).bind fun σ10 =>
      some σ10
      ) else (
      (fX5_putBit 0 x5 1 σ6).bind fun σ11 =>
      rec31 (x5 + 1) σ11
      )
    ) 1 σ4
/-- ImageChecker$Tables.remember()V -/
def fX5_remember (σ : ck_S) : Option ck_S :=
  (some (ck_set_memory σ (va_cpy (ck_cells σ) (ck_memory σ) 0 0 1355))).bind fun σ1 =>
  some σ1
/-- ImageChecker$Tables.differFromMemory()Z -/
def fX5_differFromMemory (σ : ck_S) : Option Int32 :=
  qp1 FU (fun rec2 (x1 : Int32) =>
    if 1355 ≤ x1 then (
      some 0
      ) else (
      (ck_rd_cells σ x1).bind fun v3 =>
      (ck_rd_memory σ x1).bind fun v4 =>
      if v3 = v4 then (
        rec2 (x1 + 1)
        ) else (
        some 1
        )
      )
    ) 0
/-- ImageChecker$Tables.toldNumber(I)I -/
def fX5_toldNumber (p0 : Int32) (σ : ck_S) : Option Int32 :=
  (ck_rd_cells σ (1352 + p0)).bind fun v1 =>
  some v1
/-- ImageChecker$WaitingList.mayWait(LImageChecker$Tables;I)Z -/
def fX6_mayWait (p1 : Int32) (σ : ck_S) : Option Int32 :=
  (fX5_number p1 0 σ).bind fun v1 =>
  if v1 = 0 then (
    some 0
    ) else (
    if v1 = 2 then (
      some 0
      ) else (
      (fX5_number p1 2 σ).bind fun v4 =>
      if v4 = 0 then (
        (fX5_countEntriesFor p1 σ).bind fun v6 =>
        if v6 = 0 then (
          some 1
          ) else (
          some 0
          )
        ) else (
        some 0
        )
      )
    )
/-- ImageChecker$WaitingList.addIfHeld(IZ)V -/
def fX6_addIfHeld (p0 : Int32) (p1 : Int32) (σ : ck_S) : Option ck_S :=
  if p1 = 0 then (
    some σ
    ) else (
    if 24 ≤ (ck_count σ) then (
      some σ
      ) else (
      (ck_wr_waitOn σ (ck_count σ) p0).bind fun σ3 =>
      (some (ck_set_count σ3 ((ck_count σ3) + 1))).bind fun σ4 =>
      some σ4
      )
    )
/-- ImageChecker$WaitingList.gather(LImageChecker$Tables;[Z)V -/
def fX6_gather (σ : ck_S) : Option ck_S :=
  (fX7_unmark_13 σ).bind fun σ1 =>
  (fX7_unmark_14 σ1).bind fun σ2 =>
  (some (ck_set_count σ2 0)).bind fun σ3 =>
  (fX5_toldNumber 2 σ3).bind fun v4 =>
  qp3 FU (fun rec28 (x5 : Int32) (x6 : Int32) (σ7 : ck_S) =>
    if 24 ≤ x6 then (
      some σ7
      ) else (
      (fX7_isFile x5).bind fun v9 =>
      if v9 = 0 then (
        some σ7
        ) else (
        (ck_rd_came σ7 x5).bind fun v11 =>
        if v11 = 0 then (
          (ck_wr_came σ7 x5 1).bind fun σ13 =>
          (fX6_mayWait x5 σ13).bind fun v14 =>
          jn (fun (σ15 : ck_S) =>
            (fX5_number x5 3 σ15).bind fun v16 =>
            rec28 v16 (x6 + 1) σ15
            ) (fun j81 =>
          if v14 = 0 then (
            j81 σ13
            ) else (
            (ck_wr_rightly σ13 x5 1).bind fun σ18 =>
            (ck_rd_held σ18 x5).bind fun v19 =>
            (fX6_addIfHeld x5 v19 σ18).bind fun σ20 =>
            j81 σ20
            )
          )) else (
          some σ7
          )
        )
      )
    ) v4 0 σ3
/-- ImageChecker.clear()V -/
def fX7_clear (σ : ck_S) : Option ck_S :=
  (fX5_makeWhole σ).bind fun σ1 =>
  (fX7_unmark_4 σ1).bind fun σ2 =>
  some σ2
/-- ImageChecker.weightIfMended(I)I -/
def fX7_weightIfMended (p0 : Int32) (σ : ck_S) : Option (Int32 × ck_S) :=
  (fX5_differFromMemory σ).bind fun v1 =>
  (fX5_remember σ).bind fun σ2 =>
  if v1 = 0 then (
    some (0, σ2)
    ) else (
    some (p0, σ2)
    )
/-- ImageChecker.check()I -/
def fX7_check (σ : ck_S) : Option (Int32 × ck_S) :=
  (fX5_remember σ).bind fun σ1 =>
  (fX4_mend σ1).bind fun σ2 =>
  ik_b2 (fX7_weightIfMended 1 σ2) fun v3 σ4 =>
  (fX1_mend σ4).bind fun σ5 =>
  ik_b2 (fX7_weightIfMended 2 σ5) fun v6 σ7 =>
  (fX6_gather σ7).bind fun σ8 =>
  (fX2_mend σ8).bind fun σ9 =>
  ik_b2 (fX7_weightIfMended 4 σ9) fun v10 σ11 =>
  (fX3_mend σ11).bind fun σ12 =>
  ik_b2 (fX7_weightIfMended 8 σ12) fun v13 σ14 =>
  (fX0_mend σ14).bind fun σ15 =>
  ik_b2 (fX7_weightIfMended 16 σ15) fun v16 σ17 =>
  some ((((v3 + v6) + v10) + v13) + v16, σ17)
/-- ImageChecker.fileNamed(II)I -/
def fX7_fileNamed (p0 : Int32) (p1 : Int32) (σ : ck_S) : Option Int32 :=
  (fX5_number p0 0 σ).bind fun v1 =>
  if v1 = 2 then (
    (fX5_placeOfName p0 8 p1 σ).bind fun v3 =>
    if 8 ≤ v3 then (
      some 0
      ) else (
      (fX5_entryPart p0 v3 1 σ).bind fun v5 =>
      some v5
      )
    ) else (
    some 0
    )
/-- ImageChecker.find(J)I -/
def fX7_find (p0 : Int64) (σ : ck_S) : Option Int32 :=
  qp2 FU (fun rec5 (x1 : Int32) (x2 : Int32) =>
    if 8 ≤ x2 then (
      some x1
      ) else (
      if ((((p0.toUInt64 >>> ((8 * x2).toInt64.toUInt64 &&& Int64.toUInt64 63)).toInt64).toInt32) &&& 255) = 0 then (
        some x1
        ) else (
        (fX7_fileNamed x1 ((((p0.toUInt64 >>> ((8 * x2).toInt64.toUInt64 &&& Int64.toUInt64 63)).toInt64).toInt32) &&& 255) σ).bind fun v5 =>
        (fX7_isFile v5).bind fun v6 =>
        if v6 = 0 then (
          some 0
          ) else (
          rec5 v5 (x2 + 1)
          )
        )
      )
    ) 1 0
/-- ImageCheckerModel.thrown()I -/
def fX8_thrown (σ : mk_S) : Option Int32 :=
  some (mk_code σ)
/-- ImageCheckerModel.makeWhole()V -/
def fX8_makeWhole (σ : mk_S) : Option mk_S :=
  qp2 FU (fun rec2 (x1 : Int32) (σ2 : mk_S) =>
    if 1429 ≤ x1 then (
      qp2 FU (fun rec24 (x4 : Int32) (σ5 : mk_S) =>
        if 24 < x4 then (
          (mk_wr_all σ5 47 2).bind fun σ7 =>
          (mk_wr_all σ7 49 2).bind fun σ8 =>
          (mk_wr_all σ8 51 1).bind fun σ9 =>
          qp2 FU (fun rec69 (x10 : Int32) (σ11 : mk_S) =>
            if 8 < x10 then (
              (mk_wr_all σ11 1402 1).bind fun σ13 =>
              (mk_wr_all σ13 1426 192).bind fun σ14 =>
              (mk_wr_all σ14 1427 23).bind fun σ15 =>
              some σ15
              ) else (
              (mk_wr_all σ11 (1200 + x10) 1).bind fun σ16 =>
              rec69 (x10 + 1) σ16
              )
            ) 1 σ9
          ) else (
          (mk_wr_held σ5 x4 0).bind fun σ17 =>
          rec24 (x4 + 1) σ17
          )
        ) 0 σ2
      ) else (
      (mk_wr_all σ2 x1 0).bind fun σ18 =>
      rec2 (x1 + 1) σ18
      )
    ) 0 σ
/-- ImageCheckerModel.clear()V -/
def fX8_clear (σ : mk_S) : Option mk_S :=
  (some (mk_set_code σ 0)).bind fun σ1 =>
  (fX8_makeWhole σ1).bind fun σ2 =>
  some σ2
/-- ImageCheckerModel.isIn(III)Z -/
def fX8_isIn (p0 : Int32) (p1 : Int32) (p2 : Int32) : Option Int32 :=
  if p0 < p1 then (
    some 0
    ) else (
    if p2 < p0 then (
      some 0
      ) else (
      some 1
      )
    )
/-- ImageCheckerModel.may(Z)Z -/
def fX8_may (p0 : Int32) (σ : mk_S) : Option (Int32 × mk_S) :=
  jn (fun (y1 : Int32) =>
    (some (mk_set_code σ y1)).bind fun σ2 =>
    (ik_zb p0).bind fun w => some (w, σ2)
    ) (fun j10 =>
  if p0 = 0 then (
    j10 1
    ) else (
    j10 0
    )
  )
/-- ImageCheckerModel.runAt(II)I -/
def fX8_runAt (p0 : Int32) (p1 : Int32) : Option Int32 :=
  some (((47 * p0) + 5) + (3 * p1))
/-- ImageCheckerModel.entryAt(II)I -/
def fX8_entryAt (p0 : Int32) (p1 : Int32) : Option Int32 :=
  some (((47 * p0) + 23) + (3 * p1))
/-- ImageCheckerModel.set(III)V -/
def fX8_set (p0 : Int32) (p1 : Int32) (p2 : Int32) (σ : mk_S) : Option mk_S :=
  (fX8_isIn p0 1 24).bind fun v1 =>
  jn (fun (y2 : Int32) =>
    ik_b2 (fX8_may y2 σ) fun v3 σ4 =>
    if v3 = 0 then (
      some σ4
      ) else (
      (mk_wr_all σ4 ((47 * p0) + p1) p2).bind fun σ6 =>
      some σ6
      )
    ) (fun j25 =>
  jn (fun (_u : Unit) =>
    j25 0
    ) (fun j24 =>
  if v1 = 0 then (
    j24 ()
    ) else (
    (fX8_isIn p1 0 4).bind fun v8 =>
    if v8 = 0 then (
      j24 ()
      ) else (
      j25 1
      )
    )
  ))
/-- ImageCheckerModel.put(IIII)V -/
def fX8_put (p0 : Int32) (p1 : Int32) (p2 : Int32) (p3 : Int32) (σ : mk_S) : Option mk_S :=
  (mk_wr_all σ p0 p1).bind fun σ1 =>
  (mk_wr_all σ1 (p0 + 1) p2).bind fun σ2 =>
  (mk_wr_all σ2 (p0 + 2) p3).bind fun σ3 =>
  some σ3
/-- ImageCheckerModel.run(IIIII)V -/
def fX8_run (p0 : Int32) (p1 : Int32) (p2 : Int32) (p3 : Int32) (p4 : Int32) (σ : mk_S) : Option mk_S :=
  (fX8_isIn p0 1 24).bind fun v1 =>
  jn (fun (y2 : Int32) =>
    ik_b2 (fX8_may y2 σ) fun v3 σ4 =>
    if v3 = 0 then (
      some σ4
      ) else (
      (fX8_runAt p0 p1).bind fun v6 =>
      (fX8_put v6 p2 p3 p4 σ4).bind fun σ7 =>
      some σ7
      )
    ) (fun j25 =>
  jn (fun (_u : Unit) =>
    j25 0
    ) (fun j24 =>
  if v1 = 0 then (
    j24 ()
    ) else (
    (fX8_isIn p1 0 5).bind fun v9 =>
    if v9 = 0 then (
      j24 ()
      ) else (
      j25 1
      )
    )
  ))
/-- ImageCheckerModel.entry(IIIII)V -/
def fX8_entry (p0 : Int32) (p1 : Int32) (p2 : Int32) (p3 : Int32) (p4 : Int32) (σ : mk_S) : Option mk_S :=
  (fX8_isIn p0 1 24).bind fun v1 =>
  jn (fun (y2 : Int32) =>
    ik_b2 (fX8_may y2 σ) fun v3 σ4 =>
    if v3 = 0 then (
      some σ4
      ) else (
      (fX8_entryAt p0 p1).bind fun v6 =>
      (fX8_put v6 p2 p3 p4 σ4).bind fun σ7 =>
      some σ7
      )
    ) (fun j26 =>
  jn (fun (_u : Unit) =>
    j26 0
    ) (fun j25 =>
  if v1 = 0 then (
    j25 ()
    ) else (
    (fX8_isIn p1 0 7).bind fun v9 =>
    if v9 = 0 then (
      j25 ()
      ) else (
      j26 1
      )
    )
  ))
/-- ImageCheckerModel.hold(IZ)V -/
def fX8_hold (p0 : Int32) (p1 : Int32) (σ : mk_S) : Option mk_S :=
  (fX8_isIn p0 1 24).bind fun v1 =>
  ik_b2 (fX8_may v1 σ) fun v2 σ3 =>
  if v2 = 0 then (
    some σ3
    ) else (
    (mk_wr_held σ3 p0 p1).bind fun σ5 =>
    some σ5
    )
/-- ImageCheckerModel.isBit(II)Z -/
def fX8_isBit (p0 : Int32) (p1 : Int32) : Option Int32 :=
  jn (fun (_u : Unit) =>
    if p0 = 1 then (
      (fX8_isIn p1 1 24).bind fun v2 =>
      if v2 = 0 then (
        some 0
        ) else (
        some 1
        )
      ) else (
      some 0
      )
    ) (fun j15 =>
  if p0 = 0 then (
    (fX8_isIn p1 1 200).bind fun v5 =>
    if v5 = 0 then (
      j15 ()
      ) else (
      some 1
      )
    ) else (
    j15 ()
    )
  )
/-- ImageCheckerModel.bit(IIZ)V -/
def fX8_bit (p0 : Int32) (p1 : Int32) (p2 : Int32) (σ : mk_S) : Option mk_S :=
  (fX8_isBit p0 p1).bind fun v1 =>
  ik_b2 (fX8_may v1 σ) fun v2 σ3 =>
  if v2 = 0 then (
    some σ3
    ) else (
    jn (fun (y5 : Int32) =>
      jn (fun (y6 : Int32) =>
        (mk_wr_all σ3 (y5 + p1) y6).bind fun σ7 =>
        some σ7
        ) (fun j40 =>
      if p2 = 0 then (
        j40 0
        ) else (
        j40 1
        )
      )) (fun j29 =>
    if p0 = 0 then (
      j29 1200
      ) else (
      j29 1401
      )
    ))
/-- ImageCheckerModel.tell(II)V -/
def fX8_tell (p0 : Int32) (p1 : Int32) (σ : mk_S) : Option mk_S :=
  (fX8_isIn p0 0 2).bind fun v1 =>
  ik_b2 (fX8_may v1 σ) fun v2 σ3 =>
  if v2 = 0 then (
    some σ3
    ) else (
    (mk_wr_all σ3 (1426 + p0) p1).bind fun σ5 =>
    some σ5
    )
/-- ImageCheckerModel.blank(II)V -/
def fX8_blank (p0 : Int32) (p1 : Int32) (σ : mk_S) : Option mk_S :=
  qp2 FU (fun rec2 (x1 : Int32) (σ2 : mk_S) =>
    if p1 ≤ x1 then (
      some σ2
      ) else (
      (mk_wr_all σ2 x1 0).bind fun σ4 =>
      rec2 (x1 + 1) σ4
      )
    ) p0 σ
/-- ImageCheckerModel.dropRecord(I)V -/
def fX8_dropRecord (p0 : Int32) (σ : mk_S) : Option mk_S :=
  (fX8_blank (47 * p0) ((47 * p0) + 47) σ).bind fun σ1 =>
  some σ1
/-- ImageCheckerModel.isRight(III)Z -/
def fX8_isRight (p0 : Int32) (p1 : Int32) (p2 : Int32) : Option Int32 :=
  if p1 < 1 then (
    some 0
    ) else (
    if 64 < p1 then (
      some 0
      ) else (
      if p0 < 0 then (
        some 0
        ) else (
        if (64 - p1) < p0 then (
          some 0
          ) else (
          if p2 < 9 then (
            some 0
            ) else (
            if (201 - p1) < p2 then (
              some 0
              ) else (
              some 1
              )
            )
          )
        )
      )
    )
/-- ImageCheckerModel.greatestEnd(I)I -/
def fX8_greatestEnd (p0 : Int32) (σ : mk_S) : Option Int32 :=
  qp2 FU (fun rec4 (x1 : Int32) (x2 : Int32) =>
    if 6 ≤ x2 then (
      some x1
      ) else (
      (fX8_runAt p0 x2).bind fun v4 =>
      (mk_rd_all σ v4).bind fun v5 =>
      (mk_rd_all σ (v4 + 1)).bind fun v6 =>
      (mk_rd_all σ (v4 + 2)).bind fun v7 =>
      (fX8_isRight v5 v6 v7).bind fun v8 =>
      jn (fun (y9 : Int32) =>
        if y9 = 0 then (
          rec4 x1 (x2 + 1)
          ) else (
          (mk_rd_all σ v4).bind fun v11 =>
          (mk_rd_all σ (v4 + 1)).bind fun v12 =>
          rec4 (v11 + v12) (x2 + 1)
          )
        ) (fun j74 =>
      jn (fun (_u : Unit) =>
        j74 0
        ) (fun j73 =>
      if v8 = 0 then (
        j73 ()
        ) else (
        (mk_rd_all σ v4).bind fun v14 =>
        (mk_rd_all σ (v4 + 1)).bind fun v15 =>
        if (v14 + v15) ≤ x1 then (
          j73 ()
          ) else (
          j74 1
          )
        )
      )))
    ) 0 0
/-- ImageCheckerModel.isFree(II)Z -/
def fX8_isFree (p0 : Int32) (p1 : Int32) (σ : mk_S) : Option Int32 :=
  qp2 FU (fun rec5 (x1 : Int32) (x2 : Int32) =>
    if (p0 + p1) ≤ x2 then (
      ik_zb x1
      ) else (
      jn (fun (_u : Unit) =>
        rec5 0 (x2 + 1)
        ) (fun j31 =>
      if x1 = 0 then (
        j31 ()
        ) else (
        (mk_rd_owner σ x2).bind fun v5 =>
        if v5 = 0 then (
          rec5 1 (x2 + 1)
          ) else (
          j31 ()
          )
        )
      ))
    ) 1 p0
/-- ImageCheckerModel.checkRuns(I)V -/
def fX8_checkRuns (p0 : Int32) (σ : mk_S) : Option mk_S :=
  (mk_rd_all σ ((47 * p0) + 1)).bind fun v1 =>
  qp4 FU (fun rec28 (x2 : Int32) (x3 : Int32) (x4 : Int32) (σ5 : mk_S) =>
    if 6 ≤ x4 then (
      (fX8_runAt p0 x2).bind fun v7 =>
      (fX8_runAt p0 6).bind fun v8 =>
      (fX8_blank v7 v8 σ5).bind fun σ9 =>
      some σ9
      ) else (
      (fX8_runAt p0 x4).bind fun v10 =>
      (mk_rd_all σ5 v10).bind fun v11 =>
      (mk_rd_all σ5 (v10 + 1)).bind fun v12 =>
      (mk_rd_all σ5 (v10 + 2)).bind fun v13 =>
      (fX8_isRight v11 v12 v13).bind fun v14 =>
      jn (fun (x15 : Int32) =>
        jn (fun (y16 : Int32) =>
          if y16 = 0 then (
            rec28 x2 x3 (x4 + 1) σ5
            ) else (
            qp2 FU (fun rec149 (x18 : Int32) (σ19 : mk_S) =>
              if (v13 + x15) ≤ x18 then (
                (fX8_runAt p0 x2).bind fun v21 =>
                (fX8_put v21 v11 x15 v13 σ19).bind fun σ22 =>
                rec28 (x2 + 1) (v11 + x15) (x4 + 1) σ22
                ) else (
                (mk_wr_owner σ19 x18 p0).bind fun σ23 =>
                rec149 (x18 + 1) σ23
                )
              ) v13 σ5
            )
          ) (fun j138 =>
        jn (fun (_u : Unit) =>
          j138 0
          ) (fun j137 =>
        if v14 = 0 then (
          j137 ()
          ) else (
          if x15 ≤ 0 then (
            j137 ()
            ) else (
            if v11 < x3 then (
              j137 ()
              ) else (
              (fX8_isFree v13 x15 σ5).bind fun v27 =>
              if v27 = 0 then (
                j137 ()
                ) else (
                j138 1
                )
              )
            )
          )
        ))) (fun j105 =>
      if v14 = 0 then (
        j105 v12
        ) else (
        if (v11 + v12) ≤ ((v1 + 1023) / 1024) then (
          j105 v12
          ) else (
          j105 (((v1 + 1023) / 1024) - v11)
          )
        )
      ))
    ) 0 0 0 σ
/-- ImageCheckerModel.checkRecord(I)V -/
def fX8_checkRecord (p0 : Int32) (σ : mk_S) : Option mk_S :=
  jn (fun (σ1 : mk_S) =>
    (mk_rd_all σ1 (47 * p0)).bind fun v2 =>
    jn (fun (_u : Unit) =>
      (fX8_dropRecord p0 σ1).bind fun σ3 =>
      some σ3
      ) (fun j67 =>
    if v2 < 1 then (
      j67 ()
      ) else (
      (mk_rd_all σ1 (47 * p0)).bind fun v5 =>
      if v5 ≤ 3 then (
        (mk_rd_all σ1 ((47 * p0) + 1)).bind fun v7 =>
        jn (fun (σ8 : mk_S) =>
          (fX8_checkRuns p0 σ8).bind fun σ9 =>
          (mk_rd_all σ9 (47 * p0)).bind fun v10 =>
          if v10 = 2 then (
            some σ9
            ) else (
            (fX8_blank ((47 * p0) + 23) ((47 * p0) + 47) σ9).bind fun σ12 =>
            some σ12
            )
          ) (fun j114 =>
        jn (fun (_u : Unit) =>
          (fX8_greatestEnd p0 σ1).bind fun v13 =>
          (mk_wr_all σ1 ((47 * p0) + 1) (1024 * v13)).bind fun σ14 =>
          j114 σ14
          ) (fun j97 =>
        if v7 < 0 then (
          j97 ()
          ) else (
          (mk_rd_all σ1 ((47 * p0) + 1)).bind fun v16 =>
          if v16 ≤ 65536 then (
            j114 σ1
            ) else (
            j97 ()
            )
          )
        ))) else (
        j67 ()
        )
      )
    )) (fun j47 =>
  if p0 = 1 then (
    (mk_rd_all σ (47 * p0)).bind fun v19 =>
    if v19 = 2 then (
      j47 σ
      ) else (
      (mk_wr_all σ (47 * p0) 2).bind fun σ21 =>
      (mk_wr_all σ21 ((47 * p0) + 1) 0).bind fun σ22 =>
      (fX8_blank ((47 * p0) + 5) ((47 * p0) + 47) σ22).bind fun σ23 =>
      j47 σ23
      )
    ) else (
    j47 σ
    )
  )
/-- ImageCheckerModel.checkRecords()V -/
def fX8_checkRecords (σ : mk_S) : Option mk_S :=
  qp2 FU (fun rec2 (x1 : Int32) (σ2 : mk_S) =>
    if 200 < x1 then (
      qp2 FU (fun rec24 (x4 : Int32) (σ5 : mk_S) =>
        if 24 < x4 then (
          some σ5
          ) else (
          (fX8_checkRecord x4 σ5).bind fun σ7 =>
          rec24 (x4 + 1) σ7
          )
        ) 1 σ2
      ) else (
      (mk_wr_owner σ2 x1 0).bind fun σ8 =>
      rec2 (x1 + 1) σ8
      )
    ) 0 σ
/-- ImageCheckerModel.kindOf(I)I -/
def fX8_kindOf (p0 : Int32) (σ : mk_S) : Option Int32 :=
  (mk_rd_all σ (47 * p0)).bind fun v1 =>
  some v1
/-- ImageCheckerModel.hasName(III)Z -/
def fX8_hasName (p0 : Int32) (p1 : Int32) (p2 : Int32) (σ : mk_S) : Option Int32 :=
  qp2 FU (fun rec6 (x1 : Int32) (x2 : Int32) =>
    if p1 ≤ x2 then (
      ik_zb x1
      ) else (
      jn (fun (_u : Unit) =>
        rec6 1 (x2 + 1)
        ) (fun j32 =>
      if x1 = 0 then (
        (fX8_entryAt p0 x2).bind fun v5 =>
        (mk_rd_all σ v5).bind fun v6 =>
        if v6 = p2 then (
          j32 ()
          ) else (
          rec6 0 (x2 + 1)
          )
        ) else (
        j32 ()
        )
      ))
    ) 0 0
/-- ImageCheckerModel.checkFolders()V -/
def fX8_checkFolders (σ : mk_S) : Option mk_S :=
  qp2 FU (fun rec2 (x1 : Int32) (σ2 : mk_S) =>
    if 24 < x1 then (
      qp2 FU (fun rec23 (x4 : Int32) (σ5 : mk_S) =>
        if 24 < x4 then (
          some σ5
          ) else (
          (fX8_kindOf x4 σ5).bind fun v7 =>
          if v7 = 2 then (
            qp3 FU (fun rec45 (x9 : Int32) (x10 : Int32) (σ11 : mk_S) =>
              if 8 ≤ x10 then (
                (fX8_entryAt x4 x9).bind fun v13 =>
                (fX8_entryAt x4 8).bind fun v14 =>
                (fX8_blank v13 v14 σ11).bind fun σ15 =>
                rec23 (x4 + 1) σ15
                ) else (
                (fX8_entryAt x4 x10).bind fun v16 =>
                (mk_rd_all σ11 v16).bind fun v17 =>
                (mk_rd_all σ11 (v16 + 1)).bind fun v18 =>
                (fX8_isIn v17 1 255).bind fun v19 =>
                jn (fun (y20 : Int32) =>
                  if y20 = 0 then (
                    rec45 x9 (x10 + 1) σ11
                    ) else (
                    (mk_wr_reached σ11 v18 1).bind fun σ22 =>
                    (fX8_entryAt x4 x9).bind fun v23 =>
                    (fX8_kindOf v18 σ22).bind fun v24 =>
                    (fX8_put v23 v17 v18 v24 σ22).bind fun σ25 =>
                    rec45 (x9 + 1) (x10 + 1) σ25
                    )
                  ) (fun j146 =>
                jn (fun (_u : Unit) =>
                  j146 0
                  ) (fun j145 =>
                if v19 = 0 then (
                  j145 ()
                  ) else (
                  (fX8_hasName x4 x9 v17 σ11).bind fun v27 =>
                  if v27 = 0 then (
                    (fX8_isIn v18 2 24).bind fun v29 =>
                    if v29 = 0 then (
                      j145 ()
                      ) else (
                      (fX8_kindOf v18 σ11).bind fun v31 =>
                      if v31 = 0 then (
                        j145 ()
                        ) else (
                        (fX8_kindOf v18 σ11).bind fun v33 =>
                        jn (fun (_u : Unit) =>
                          j146 1
                          ) (fun j141 =>
                        if v33 = 2 then (
                          (mk_rd_reached σ11 v18).bind fun v35 =>
                          if v35 = 0 then (
                            j141 ()
                            ) else (
                            j145 ()
                            )
                          ) else (
                          j141 ()
                          )
                        ))
                      )
                    ) else (
                    j145 ()
                    )
                  )
                )))
              ) 0 0 σ5
            ) else (
            rec23 (x4 + 1) σ5
            )
          )
        ) 1 σ2
      ) else (
      (mk_wr_reached σ2 x1 0).bind fun σ37 =>
      rec2 (x1 + 1) σ37
      )
    ) 0 σ
/-- ImageCheckerModel.findReached()V -/
def fX8_findReached (σ : mk_S) : Option mk_S :=
  qp2 FU (fun rec2 (x1 : Int32) (σ2 : mk_S) =>
    if 24 < x1 then (
      qp2 FU (fun rec32 (x4 : Int32) (σ5 : mk_S) =>
        if 24 ≤ x4 then (
          some σ5
          ) else (
          qp2 FU (fun rec40 (x7 : Int32) (σ8 : mk_S) =>
            if 24 < x7 then (
              rec32 (x4 + 1) σ8
              ) else (
              qp2 FU (fun rec48 (x10 : Int32) (σ11 : mk_S) =>
                if 8 ≤ x10 then (
                  rec40 (x7 + 1) σ11
                  ) else (
                  (mk_rd_reached σ11 x7).bind fun v13 =>
                  if v13 = 0 then (
                    rec40 (x7 + 1) σ11
                    ) else (
                    (fX8_kindOf x7 σ11).bind fun v15 =>
                    if v15 = 2 then (
                      (fX8_entryAt x7 x10).bind fun v17 =>
                      (mk_rd_all σ11 v17).bind fun v18 =>
                      if v18 = 0 then (
                        rec48 (x10 + 1) σ11
                        ) else (
                        (mk_rd_all σ11 (v17 + 1)).bind fun v20 =>
                        (mk_wr_reached σ11 v20 1).bind fun σ21 =>
                        rec48 (x10 + 1) σ21
                        )
                      ) else (
                      rec40 (x7 + 1) σ11
                      )
                    )
                  )
                ) 0 σ8
              )
            ) 1 σ5
          )
        ) 0 σ2
      ) else (
      jn (fun (y22 : Int32) =>
        (mk_wr_reached σ2 x1 y22).bind fun σ23 =>
        rec2 (x1 + 1) σ23
        ) (fun j23 =>
      if x1 = 1 then (
        j23 1
        ) else (
        j23 0
        )
      ))
    ) 0 σ
/-- ImageCheckerModel.leading(I)I -/
def fX8_leading (p0 : Int32) (σ : mk_S) : Option Int32 :=
  qp2 FU (fun rec4 (x1 : Int32) (x2 : Int32) =>
    if 24 < x2 then (
      some x1
      ) else (
      qp2 FU (fun rec13 (x4 : Int32) (x5 : Int32) =>
        if 8 ≤ x5 then (
          rec4 x4 (x2 + 1)
          ) else (
          (fX8_kindOf x2 σ).bind fun v7 =>
          if v7 = 2 then (
            (fX8_entryAt x2 x5).bind fun v9 =>
            (mk_rd_all σ v9).bind fun v10 =>
            jn (fun (y11 : Int32) =>
              rec13 (x4 + y11) (x5 + 1)
              ) (fun j66 =>
            jn (fun (_u : Unit) =>
              j66 0
              ) (fun j65 =>
            if v10 = 0 then (
              j65 ()
              ) else (
              (fX8_entryAt x2 x5).bind fun v13 =>
              (mk_rd_all σ (v13 + 1)).bind fun v14 =>
              if v14 = p0 then (
                j66 1
                ) else (
                j65 ()
                )
              )
            ))) else (
            rec4 x4 (x2 + 1)
            )
          )
        ) x1 0
      )
    ) 0 1
/-- ImageCheckerModel.findWaiting()V -/
def fX8_findWaiting (σ : mk_S) : Option mk_S :=
  qp2 FU (fun rec2 (x1 : Int32) (σ2 : mk_S) =>
    if 24 < x1 then (
      (some (mk_set_listSize σ2 0)).bind fun σ4 =>
      (mk_rd_all σ4 1428).bind fun v5 =>
      qp2 FU (fun rec42 (x6 : Int32) (σ7 : mk_S) =>
        (fX8_isIn x6 1 24).bind fun v8 =>
        if v8 = 0 then (
          qp2 FU (fun rec105 (x10 : Int32) (σ11 : mk_S) =>
            if (mk_listSize σ11) ≤ x10 then (
              some σ11
              ) else (
              (mk_rd_list σ11 x10).bind fun v13 =>
              (mk_wr_goesOn σ11 v13 0).bind fun σ14 =>
              (fX8_kindOf v13 σ14).bind fun v15 =>
              (fX8_isIn v15 1 3).bind fun v16 =>
              jn (fun (y17 : Int32) =>
                (mk_wr_rightly σ14 v13 y17).bind fun σ18 =>
                rec105 (x10 + 1) σ18
                ) (fun j181 =>
              jn (fun (_u : Unit) =>
                j181 0
                ) (fun j180 =>
              if v16 = 0 then (
                j180 ()
                ) else (
                (fX8_kindOf v13 σ14).bind fun v20 =>
                if v20 = 2 then (
                  j180 ()
                  ) else (
                  (mk_rd_all σ14 ((47 * v13) + 2)).bind fun v22 =>
                  if v22 = 0 then (
                    (fX8_leading v13 σ14).bind fun v24 =>
                    if v24 = 0 then (
                      j181 1
                      ) else (
                      j180 ()
                      )
                    ) else (
                    j180 ()
                    )
                  )
                )
              )))
            ) 0 σ7
          ) else (
          (mk_rd_goesOn σ7 x6).bind fun v26 =>
          if v26 = 0 then (
            (mk_wr_goesOn σ7 x6 1).bind fun σ44 =>
            (mk_wr_list σ44 (mk_listSize σ44) x6).bind fun σ45 =>
            (some (mk_set_listSize σ45 ((mk_listSize σ45) + 1))).bind fun σ46 =>
            (mk_rd_all σ46 ((47 * x6) + 3)).bind fun v47 =>
            rec42 v47 σ46
            ) else (
            qp2 FU (fun rec105 (x28 : Int32) (σ29 : mk_S) =>
              if (mk_listSize σ29) ≤ x28 then (
                some σ29
                ) else (
                (mk_rd_list σ29 x28).bind fun v31 =>
                (mk_wr_goesOn σ29 v31 0).bind fun σ32 =>
                (fX8_kindOf v31 σ32).bind fun v33 =>
                (fX8_isIn v33 1 3).bind fun v34 =>
                jn (fun (y35 : Int32) =>
                  (mk_wr_rightly σ32 v31 y35).bind fun σ36 =>
                  rec105 (x28 + 1) σ36
                  ) (fun j181 =>
                jn (fun (_u : Unit) =>
                  j181 0
                  ) (fun j180 =>
                if v34 = 0 then (
                  j180 ()
                  ) else (
                  (fX8_kindOf v31 σ32).bind fun v38 =>
                  if v38 = 2 then (
                    j180 ()
                    ) else (
                    (mk_rd_all σ32 ((47 * v31) + 2)).bind fun v40 =>
                    if v40 = 0 then (
                      (fX8_leading v31 σ32).bind fun v42 =>
                      if v42 = 0 then (
                        j181 1
                        ) else (
                        j180 ()
                        )
                      ) else (
                      j180 ()
                      )
                    )
                  )
                )))
              ) 0 σ7
            )
          )
        ) v5 σ4
      ) else (
      (mk_wr_rightly σ2 x1 0).bind fun σ48 =>
      (mk_wr_goesOn σ48 x1 0).bind fun σ49 =>
      rec2 (x1 + 1) σ49
      )
    ) 0 σ
/-- ImageCheckerModel.dropEntries(I)V -/
def fX8_dropEntries (p0 : Int32) (σ : mk_S) : Option mk_S :=
  qp2 FU (fun rec2 (x1 : Int32) (σ2 : mk_S) =>
    if 24 < x1 then (
      some σ2
      ) else (
      qp3 FU (fun rec13 (x4 : Int32) (x5 : Int32) (σ6 : mk_S) =>
        if 8 ≤ x5 then (
          (fX8_entryAt x1 x4).bind fun v8 =>
          (fX8_entryAt x1 8).bind fun v9 =>
          (fX8_blank v8 v9 σ6).bind fun σ10 =>
          rec2 (x1 + 1) σ10
          ) else (
          (fX8_entryAt x1 x5).bind fun v11 =>
          (mk_rd_all σ6 v11).bind fun v12 =>
          if v12 = 0 then (
            rec13 x4 (x5 + 1) σ6
            ) else (
            (mk_rd_all σ6 (v11 + 1)).bind fun v14 =>
            if v14 = p0 then (
              rec13 x4 (x5 + 1) σ6
              ) else (
              (fX8_entryAt x1 x4).bind fun v16 =>
              (mk_rd_all σ6 v11).bind fun v17 =>
              (mk_rd_all σ6 (v11 + 1)).bind fun v18 =>
              (mk_rd_all σ6 (v11 + 2)).bind fun v19 =>
              (fX8_put v16 v17 v18 v19 σ6).bind fun σ20 =>
              rec13 (x4 + 1) (x5 + 1) σ20
              )
            )
          )
        ) 0 0 σ2
      )
    ) 1 σ
/-- ImageCheckerModel.hang(I)V -/
def fX8_hang (p0 : Int32) (σ : mk_S) : Option mk_S :=
  (fX8_dropEntries p0 σ).bind fun σ1 =>
  qp1 FU (fun rec7 (x2 : Int32) =>
    jn (fun (_u : Unit) =>
      if x2 = 8 then (
        (fX8_dropRecord p0 σ1).bind fun σ10 =>
        some σ10
        ) else (
        qp1 FU (fun rec46 (x4 : Int32) =>
          (fX8_hasName 1 x2 x4 σ1).bind fun v5 =>
          if v5 = 0 then (
            (fX8_entryAt 1 x2).bind fun v7 =>
            (fX8_kindOf p0 σ1).bind fun v8 =>
            (fX8_put v7 x4 p0 v8 σ1).bind fun σ9 =>
            some σ9
            ) else (
            rec46 (x4 + 1)
            )
          ) 1
        )
      ) (fun j32 =>
    if 8 ≤ x2 then (
      j32 ()
      ) else (
      (fX8_entryAt 1 x2).bind fun v12 =>
      (mk_rd_all σ1 v12).bind fun v13 =>
      if v13 = 0 then (
        j32 ()
        ) else (
        rec7 (x2 + 1)
        )
      )
    )) 0
/-- ImageCheckerModel.checkHanging()V -/
def fX8_checkHanging (σ : mk_S) : Option mk_S :=
  (fX8_findWaiting σ).bind fun σ1 =>
  qp2 FU (fun rec6 (x2 : Int32) (σ3 : mk_S) =>
    if 24 < x2 then (
      some σ3
      ) else (
      (fX8_findReached σ3).bind fun σ5 =>
      (fX8_kindOf x2 σ5).bind fun v6 =>
      if v6 = 0 then (
        rec6 (x2 + 1) σ5
        ) else (
        (mk_rd_reached σ5 x2).bind fun v8 =>
        if v8 = 0 then (
          (mk_rd_rightly σ5 x2).bind fun v10 =>
          if v10 = 0 then (
            (fX8_hang x2 σ5).bind fun σ16 =>
            rec6 (x2 + 1) σ16
            ) else (
            (mk_rd_held σ5 x2).bind fun v12 =>
            if v12 = 0 then (
              (fX8_dropRecord x2 σ5).bind fun σ14 =>
              rec6 (x2 + 1) σ14
              ) else (
              (mk_wr_goesOn σ5 x2 1).bind fun σ15 =>
              rec6 (x2 + 1) σ15
              )
            )
          ) else (
          rec6 (x2 + 1) σ5
          )
        )
      )
    ) 1 σ1
/-- ImageCheckerModel.foldersIn(I)I -/
def fX8_foldersIn (p0 : Int32) (σ : mk_S) : Option Int32 :=
  qp2 FU (fun rec4 (x1 : Int32) (x2 : Int32) =>
    if 8 ≤ x2 then (
      some x1
      ) else (
      (fX8_entryAt p0 x2).bind fun v4 =>
      (mk_rd_all σ v4).bind fun v5 =>
      jn (fun (y6 : Int32) =>
        rec4 (x1 + y6) (x2 + 1)
        ) (fun j49 =>
      jn (fun (_u : Unit) =>
        j49 0
        ) (fun j48 =>
      if v5 = 0 then (
        j48 ()
        ) else (
        (fX8_entryAt p0 x2).bind fun v8 =>
        (mk_rd_all σ (v8 + 1)).bind fun v9 =>
        (fX8_kindOf v9 σ).bind fun v10 =>
        if v10 = 2 then (
          j49 1
          ) else (
          j48 ()
          )
        )
      )))
    ) 0 0
/-- ImageCheckerModel.parentOf(I)I -/
def fX8_parentOf (p0 : Int32) (σ : mk_S) : Option Int32 :=
  if p0 = 1 then (
    qp2 FU (fun rec13 (x18 : Int32) (x19 : Int32) =>
      if 24 < x19 then (
        some x18
        ) else (
        (fX8_kindOf p0 σ).bind fun v21 =>
        if v21 = 2 then (
          qp2 FU (fun rec31 (x23 : Int32) (x24 : Int32) =>
            if 8 ≤ x24 then (
              rec13 x23 (x19 + 1)
              ) else (
              (fX8_entryAt x19 x24).bind fun v26 =>
              (mk_rd_all σ v26).bind fun v27 =>
              jn (fun (y28 : Int32) =>
                if y28 = 0 then (
                  rec31 x23 (x24 + 1)
                  ) else (
                  rec31 x19 (x24 + 1)
                  )
                ) (fun j74 =>
              jn (fun (_u : Unit) =>
                j74 0
                ) (fun j73 =>
              if v27 = 0 then (
                j73 ()
                ) else (
                (fX8_entryAt x19 x24).bind fun v31 =>
                (mk_rd_all σ (v31 + 1)).bind fun v32 =>
                if v32 = p0 then (
                  j74 1
                  ) else (
                  j73 ()
                  )
                )
              )))
            ) x18 0
          ) else (
          some x18
          )
        )
      ) 1 1
    ) else (
    qp2 FU (fun rec13 (x2 : Int32) (x3 : Int32) =>
      if 24 < x3 then (
        some x2
        ) else (
        (fX8_kindOf p0 σ).bind fun v5 =>
        if v5 = 2 then (
          qp2 FU (fun rec31 (x7 : Int32) (x8 : Int32) =>
            if 8 ≤ x8 then (
              rec13 x7 (x3 + 1)
              ) else (
              (fX8_entryAt x3 x8).bind fun v10 =>
              (mk_rd_all σ v10).bind fun v11 =>
              jn (fun (y12 : Int32) =>
                if y12 = 0 then (
                  rec31 x7 (x8 + 1)
                  ) else (
                  rec31 x3 (x8 + 1)
                  )
                ) (fun j74 =>
              jn (fun (_u : Unit) =>
                j74 0
                ) (fun j73 =>
              if v11 = 0 then (
                j73 ()
                ) else (
                (fX8_entryAt x3 x8).bind fun v15 =>
                (mk_rd_all σ (v15 + 1)).bind fun v16 =>
                if v16 = p0 then (
                  j74 1
                  ) else (
                  j73 ()
                  )
                )
              )))
            ) x2 0
          ) else (
          some x2
          )
        )
      ) 0 1
    )
/-- ImageCheckerModel.checkLinks()V -/
def fX8_checkLinks (σ : mk_S) : Option mk_S :=
  qp2 FU (fun rec2 (x1 : Int32) (σ2 : mk_S) =>
    if 24 < x1 then (
      qp3 FU (fun rec82 (x4 : Int32) (x5 : Int32) (σ6 : mk_S) =>
        if x5 < 0 then (
          (mk_wr_all σ6 1428 x4).bind fun σ8 =>
          some σ8
          ) else (
          (mk_rd_list σ6 x5).bind fun v9 =>
          (mk_rd_goesOn σ6 v9).bind fun v10 =>
          if v10 = 0 then (
            rec82 x4 (x5 + (-1)) σ6
            ) else (
            (mk_rd_list σ6 x5).bind fun v12 =>
            (mk_wr_all σ6 ((47 * v12) + 3) x4).bind fun σ13 =>
            (mk_rd_list σ13 x5).bind fun v14 =>
            rec82 v14 (x5 + (-1)) σ13
            )
          )
        ) 0 ((mk_listSize σ2) - 1) σ2
      ) else (
      (fX8_kindOf x1 σ2).bind fun v15 =>
      jn (fun (y16 : Int32) =>
        (mk_wr_all σ2 ((47 * x1) + 2) y16).bind fun σ17 =>
        (mk_wr_all σ17 ((47 * x1) + 3) 0).bind fun σ18 =>
        (fX8_parentOf x1 σ18).bind fun v19 =>
        (mk_wr_all σ18 ((47 * x1) + 4) v19).bind fun σ20 =>
        rec2 (x1 + 1) σ20
        ) (fun j44 =>
      if v15 = 2 then (
        (fX8_foldersIn x1 σ2).bind fun v23 =>
        j44 (2 + v23)
        ) else (
        (fX8_leading x1 σ2).bind fun v22 =>
        j44 v22
        )
      ))
    ) 1 σ
/-- ImageCheckerModel.checkBits()V -/
def fX8_checkBits (σ : mk_S) : Option mk_S :=
  qp2 FU (fun rec2 (x1 : Int32) (σ2 : mk_S) =>
    if 200 < x1 then (
      qp2 FU (fun rec38 (x4 : Int32) (σ5 : mk_S) =>
        if 24 < x4 then (
          qp2 FU (fun rec149 (x7 : Int32) (x8 : Int32) =>
            if 200 < x8 then (
              qp2 FU (fun rec179 (x10 : Int32) (x11 : Int32) =>
                if 24 < x11 then (
                  (mk_wr_all σ5 1426 x7).bind fun σ13 =>
                  (mk_wr_all σ13 1427 x10).bind fun σ14 =>
                  some σ14
                  ) else (
                  (mk_rd_all σ5 (1401 + x11)).bind fun v15 =>
                  rec179 (x10 + (1 - v15)) (x11 + 1)
                  )
                ) 0 1
              ) else (
              (mk_rd_all σ5 (1200 + x8)).bind fun v16 =>
              rec149 (x7 + (1 - v16)) (x8 + 1)
              )
            ) 0 1
          ) else (
          (fX8_kindOf x4 σ5).bind fun v17 =>
          jn (fun (y18 : Int32) =>
            (mk_wr_all σ5 (1401 + x4) y18).bind fun σ19 =>
            qp2 FU (fun rec69 (x20 : Int32) (σ21 : mk_S) =>
              if 6 ≤ x20 then (
                rec38 (x4 + 1) σ21
                ) else (
                (fX8_runAt x4 x20).bind fun v23 =>
                (mk_rd_all σ21 (v23 + 2)).bind fun v24 =>
                qp2 FU (fun rec91 (x25 : Int32) (σ26 : mk_S) =>
                  (mk_rd_all σ26 (v23 + 2)).bind fun v27 =>
                  (mk_rd_all σ26 (v23 + 1)).bind fun v28 =>
                  if (v27 + v28) ≤ x25 then (
                    rec69 (x20 + 1) σ26
                    ) else (
                    (mk_wr_all σ26 (1200 + x25) 1).bind fun σ30 =>
                    rec91 (x25 + 1) σ30
                    )
                  ) v24 σ21
                )
              ) 0 σ19
            ) (fun j66 =>
          if v17 = 0 then (
            j66 0
            ) else (
            j66 1
            )
          ))
        ) 1 σ2
      ) else (
      jn (fun (y32 : Int32) =>
        (mk_wr_all σ2 (1200 + x1) y32).bind fun σ33 =>
        rec2 (x1 + 1) σ33
        ) (fun j29 =>
      if 9 ≤ x1 then (
        j29 0
        ) else (
        j29 1
        )
      ))
    ) 1 σ
/-- ImageCheckerModel.pass(I)V -/
def fX8_pass (p0 : Int32) (σ : mk_S) : Option mk_S :=
  if p0 = 0 then (
    (fX8_checkRecords σ).bind fun σ2 =>
    some σ2
    ) else (
  if p0 = 1 then (
    (fX8_checkFolders σ).bind fun σ3 =>
    some σ3
    ) else (
  if p0 = 2 then (
    (fX8_checkHanging σ).bind fun σ4 =>
    some σ4
    ) else (
  if p0 = 3 then (
    (fX8_checkLinks σ).bind fun σ5 =>
    some σ5
    ) else (
  (fX8_checkBits σ).bind fun σ6 =>
  some σ6
  ))))
/-- ImageCheckerModel.check()I -/
def fX8_check (σ : mk_S) : Option (Int32 × mk_S) :=
  (some (mk_set_code σ 0)).bind fun σ1 =>
  qp3 FU (fun rec9 (x2 : Int32) (x3 : Int32) (σ4 : mk_S) =>
    if 5 ≤ x3 then (
      some (x2, σ4)
      ) else (
      qp2 FU (fun rec16 (x6 : Int32) (σ7 : mk_S) =>
        if 1429 ≤ x6 then (
          (fX8_pass x3 σ7).bind fun σ9 =>
          qp2 FU (fun rec51 (x10 : Int32) (x11 : Int32) =>
            if 1429 ≤ x11 then (
              jn (fun (y13 : Int32) =>
                rec9 (x2 + y13) (x3 + 1) σ9
                ) (fun j104 =>
              if x10 = 0 then (
                j104 0
                ) else (
                j104 (1 <<< (x3 &&& 31))
                )
              )) else (
              jn (fun (_u : Unit) =>
                rec51 1 (x11 + 1)
                ) (fun j80 =>
              if x10 = 0 then (
                (mk_rd_before σ9 x11).bind fun v16 =>
                (mk_rd_all σ9 x11).bind fun v17 =>
                if v16 = v17 then (
                  rec51 0 (x11 + 1)
                  ) else (
                  j80 ()
                  )
                ) else (
                j80 ()
                )
              ))
            ) 0 0
          ) else (
          (mk_rd_all σ7 x6).bind fun v19 =>
          (mk_wr_before σ7 x6 v19).bind fun σ20 =>
          rec16 (x6 + 1) σ20
          )
        ) 0 σ4
      )
    ) 0 0 σ1
/-- ImageCheckerModel.about(II)I -/
def fX8_about (p0 : Int32) (p1 : Int32) (σ : mk_S) : Option (Int32 × mk_S) :=
  (fX8_isIn p0 1 24).bind fun v1 =>
  jn (fun (y2 : Int32) =>
    ik_b2 (fX8_may y2 σ) fun v3 σ4 =>
    if v3 = 0 then (
      some (0, σ4)
      ) else (
      (mk_rd_all σ4 ((47 * p0) + p1)).bind fun v6 =>
      some (v6, σ4)
      )
    ) (fun j25 =>
  jn (fun (_u : Unit) =>
    j25 0
    ) (fun j24 =>
  if v1 = 0 then (
    j24 ()
    ) else (
    (fX8_isIn p1 0 4).bind fun v8 =>
    if v8 = 0 then (
      j24 ()
      ) else (
      j25 1
      )
    )
  ))
/-- ImageCheckerModel.runOf(III)I -/
def fX8_runOf (p0 : Int32) (p1 : Int32) (p2 : Int32) (σ : mk_S) : Option (Int32 × mk_S) :=
  (fX8_isIn p0 1 24).bind fun v1 =>
  jn (fun (y2 : Int32) =>
    ik_b2 (fX8_may y2 σ) fun v3 σ4 =>
    if v3 = 0 then (
      some (0, σ4)
      ) else (
      (fX8_runAt p0 p1).bind fun v6 =>
      (mk_rd_all σ4 (v6 + p2)).bind fun v7 =>
      some (v7, σ4)
      )
    ) (fun j34 =>
  jn (fun (_u : Unit) =>
    j34 0
    ) (fun j33 =>
  if v1 = 0 then (
    j33 ()
    ) else (
    (fX8_isIn p1 0 5).bind fun v9 =>
    if v9 = 0 then (
      j33 ()
      ) else (
      (fX8_isIn p2 0 2).bind fun v11 =>
      if v11 = 0 then (
        j33 ()
        ) else (
        j34 1
        )
      )
    )
  ))
/-- ImageCheckerModel.entryOf(III)I -/
def fX8_entryOf (p0 : Int32) (p1 : Int32) (p2 : Int32) (σ : mk_S) : Option (Int32 × mk_S) :=
  (fX8_isIn p0 1 24).bind fun v1 =>
  jn (fun (y2 : Int32) =>
    ik_b2 (fX8_may y2 σ) fun v3 σ4 =>
    if v3 = 0 then (
      some (0, σ4)
      ) else (
      (fX8_entryAt p0 p1).bind fun v6 =>
      (mk_rd_all σ4 (v6 + p2)).bind fun v7 =>
      some (v7, σ4)
      )
    ) (fun j35 =>
  jn (fun (_u : Unit) =>
    j35 0
    ) (fun j34 =>
  if v1 = 0 then (
    j34 ()
    ) else (
    (fX8_isIn p1 0 7).bind fun v9 =>
    if v9 = 0 then (
      j34 ()
      ) else (
      (fX8_isIn p2 0 2).bind fun v11 =>
      if v11 = 0 then (
        j34 ()
        ) else (
        j35 1
        )
      )
    )
  ))
/-- ImageCheckerModel.isTaken(II)Z -/
def fX8_isTaken (p0 : Int32) (p1 : Int32) (σ : mk_S) : Option (Int32 × mk_S) :=
  (fX8_isBit p0 p1).bind fun v1 =>
  ik_b2 (fX8_may v1 σ) fun v2 σ3 =>
  if v2 = 0 then (
    some (0, σ3)
    ) else (
    jn (fun (y5 : Int32) =>
      (mk_rd_all σ3 (y5 + p1)).bind fun v6 =>
      if v6 = 1 then (
        some (1, σ3)
        ) else (
        some (0, σ3)
        )
      ) (fun j29 =>
    if p0 = 0 then (
      j29 1200
      ) else (
      j29 1401
      )
    ))
/-- ImageCheckerModel.told(I)I -/
def fX8_told (p0 : Int32) (σ : mk_S) : Option (Int32 × mk_S) :=
  (fX8_isIn p0 0 2).bind fun v1 =>
  ik_b2 (fX8_may v1 σ) fun v2 σ3 =>
  if v2 = 0 then (
    some (0, σ3)
    ) else (
    (mk_rd_all σ3 (1426 + p0)).bind fun v5 =>
    some (v5, σ3)
    )
/-- ImageCheckerModel.entryNamed(II)I -/
def fX8_entryNamed (p0 : Int32) (p1 : Int32) (σ : mk_S) : Option Int32 :=
  qp1 FU (fun rec2 (x1 : Int32) =>
    if 8 ≤ x1 then (
      some 0
      ) else (
      (fX8_entryAt p0 x1).bind fun v3 =>
      (mk_rd_all σ v3).bind fun v4 =>
      if v4 = p1 then (
        (fX8_entryAt p0 x1).bind fun v6 =>
        (mk_rd_all σ (v6 + 1)).bind fun v7 =>
        some v7
        ) else (
        rec2 (x1 + 1)
        )
      )
    ) 0
/-- ImageCheckerModel.find(J)I -/
def fX8_find (p0 : Int64) (σ : mk_S) : Option (Int32 × mk_S) :=
  (some (mk_set_code σ 0)).bind fun σ1 =>
  qp2 FU (fun rec10 (x2 : Int32) (x3 : Int32) =>
    if 8 ≤ x3 then (
      some (x2, σ1)
      ) else (
      if (((p0 >>> ((8 * x3).toInt64 &&& 63)) &&& ((255 : Int64))).toInt32) = 0 then (
        some (x2, σ1)
        ) else (
        (fX8_kindOf x2 σ1).bind fun v6 =>
        jn (fun (y7 : Int32) =>
          (fX8_isIn y7 1 24).bind fun v8 =>
          if v8 = 0 then (
            some (0, σ1)
            ) else (
            rec10 y7 (x3 + 1)
            )
          ) (fun j58 =>
        if v6 = 2 then (
          (fX8_entryNamed x2 (((p0 >>> ((8 * x3).toInt64 &&& 63)) &&& ((255 : Int64))).toInt32) σ1).bind fun v11 =>
          j58 v11
          ) else (
          j58 0
          )
        ))
      )
    ) 1 0
