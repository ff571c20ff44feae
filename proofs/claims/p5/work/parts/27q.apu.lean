/-! What the class's parser computes. -/
noncomputable def A_put (v : Int32) (σ : ex_S) : ex_S :=
  (sI 0 (((((σ.1 0) + (1 : Int32)) + (1 : Int32)) + (1 : Int32)) + (1 : Int32)) (sR 0 (upd (upd (upd (upd (σ.2.2.1 0) ((σ.1 0)).toNatClampNeg (((v).toUInt32 >>> (((24 : Int32)).toUInt32 &&& Int32.toUInt32 31)).toInt32 &&& (255 : Int32))) (((σ.1 0) + (1 : Int32))).toNatClampNeg (((v).toUInt32 >>> (((16 : Int32)).toUInt32 &&& Int32.toUInt32 31)).toInt32 &&& (255 : Int32))) ((((σ.1 0) + (1 : Int32)) + (1 : Int32))).toNatClampNeg (((v).toUInt32 >>> (((8 : Int32)).toUInt32 &&& Int32.toUInt32 31)).toInt32 &&& (255 : Int32))) (((((σ.1 0) + (1 : Int32)) + (1 : Int32)) + (1 : Int32))).toNatClampNeg (((v).toUInt32 >>> (((0 : Int32)).toUInt32 &&& Int32.toUInt32 31)).toInt32 &&& (255 : Int32))) (sI 0 ((((σ.1 0) + (1 : Int32)) + (1 : Int32)) + (1 : Int32)) (sR 0 (upd (upd (upd (σ.2.2.1 0) ((σ.1 0)).toNatClampNeg (((v).toUInt32 >>> (((24 : Int32)).toUInt32 &&& Int32.toUInt32 31)).toInt32 &&& (255 : Int32))) (((σ.1 0) + (1 : Int32))).toNatClampNeg (((v).toUInt32 >>> (((16 : Int32)).toUInt32 &&& Int32.toUInt32 31)).toInt32 &&& (255 : Int32))) ((((σ.1 0) + (1 : Int32)) + (1 : Int32))).toNatClampNeg (((v).toUInt32 >>> (((8 : Int32)).toUInt32 &&& Int32.toUInt32 31)).toInt32 &&& (255 : Int32))) (sI 0 (((σ.1 0) + (1 : Int32)) + (1 : Int32)) (sR 0 (upd (upd (σ.2.2.1 0) ((σ.1 0)).toNatClampNeg (((v).toUInt32 >>> (((24 : Int32)).toUInt32 &&& Int32.toUInt32 31)).toInt32 &&& (255 : Int32))) (((σ.1 0) + (1 : Int32))).toNatClampNeg (((v).toUInt32 >>> (((16 : Int32)).toUInt32 &&& Int32.toUInt32 31)).toInt32 &&& (255 : Int32))) (sI 0 ((σ.1 0) + (1 : Int32)) (sR 0 (upd (σ.2.2.1 0) ((σ.1 0)).toNatClampNeg (((v).toUInt32 >>> (((24 : Int32)).toUInt32 &&& Int32.toUInt32 31)).toInt32 &&& (255 : Int32))) σ))))))))
noncomputable def A_feed (v1 : Int32) (v2 : Int32) (v3 : Int32) (v4 : Int32) (v5 : Int32) (σ : ex_S) : Int32 × ex_S :=
  if ((940 : Int32)).toInt < (((σ.1 0) + (20 : Int32))).toInt then
    ((-1 : Int32), σ)
  else
    ex_lt (A_put v1 σ) (fun σ2 =>
    ex_lt (A_put v2 σ2) (fun σ5 =>
    ex_lt (A_put v3 σ5) (fun σ8 =>
    ex_lt (A_put v4 σ8) (fun σ12 =>
    ex_lt (A_put v5 σ12) (fun σ15 =>
    ((σ15.1 0), σ15))))))
noncomputable def A_isSign (ch : Int32) : Int32 :=
  if ch = (59 : Int32) then
    (1 : Int32)
  else
    if ch = (60 : Int32) then
      (1 : Int32)
    else
      if ch = (61 : Int32) then
        (1 : Int32)
      else
        if ch = (62 : Int32) then
          (1 : Int32)
        else
          if ch = (40 : Int32) then
            (1 : Int32)
          else
            if ch = (41 : Int32) then
              (1 : Int32)
            else
              (0 : Int32)
noncomputable def A_failAs (why : Int32) (σ : ex_S) : Int32 × ex_S :=
  ((0 : Int32), (sI 10 (σ.1 3) (sI 9 why σ)))
noncomputable def A_atEnd (σ : ex_S) : Int32 :=
  if (σ.1 4) = (1 : Int32) then
    (1 : Int32)
  else
    (0 : Int32)
noncomputable def A_isName (σ : ex_S) : Int32 :=
  if (σ.1 4) = (2 : Int32) then
    if (σ.1 6) = (-1 : Int32) then
      (1 : Int32)
    else
      (0 : Int32)
  else
    (0 : Int32)
noncomputable def A_toldWord (σ : ex_S) : Int32 := ex_find (σ.2.2.2 0) (σ.2.1 0) 22 0
noncomputable def A_rr61 (ch : Int32) : Int32 :=
  if (ch).toInt < ((97 : Int32)).toInt then
    (0 : Int32)
  else
    if ((122 : Int32)).toInt < (ch).toInt then
      (0 : Int32)
    else
      (1 : Int32)
noncomputable def A_rr82 (ch : Int32) : Int32 :=
  if (ch).toInt < ((48 : Int32)).toInt then
    (0 : Int32)
  else
    if ((57 : Int32)).toInt < (ch).toInt then
      (0 : Int32)
    else
      (1 : Int32)
noncomputable def A_rr99 (a : Int32) (g : Int32) : Int32 :=
  if a = 0 then
    if g = 0 then
      (0 : Int32)
    else
      (1 : Int32)
  else
    (1 : Int32)
noncomputable def A_rr132 (iw : Int32) (a : Int32) (q : Int32) (s0 : Int32) : Int32 :=
  if iw = 0 then
    (0 : Int32)
  else
    if a = 0 then
      (0 : Int32)
    else
      if ((q - s0)).toInt < ((7 : Int32)).toInt then
        (1 : Int32)
      else
        (0 : Int32)
noncomputable def A_rr160 (nu : Int32) (g : Int32) (q : Int32) (s0 : Int32) : Int32 :=
  if nu = 0 then
    (0 : Int32)
  else
    if g = 0 then
      (0 : Int32)
    else
      if ((q - s0)).toInt < ((3 : Int32)).toInt then
        (1 : Int32)
      else
        (0 : Int32)
noncomputable def A_rr184 (iw : Int32) (L : Int64) (ch : Int32) : Int64 :=
  if iw = 0 then
    L
  else
    ((L <<< (((8 : Int32)).toInt64 &&& 63)) ||| ch.toInt64)
noncomputable def A_rr212 (nu : Int32) (dg : Int32) (ch : Int32) : Int32 :=
  if nu = 0 then
    dg
  else
    (((dg * (10 : Int32)) + ch) - (48 : Int32))
noncomputable def A_rr257 (iw : Int32) (nu : Int32) : Int32 :=
  if iw = 0 then
    if nu = 0 then
      (0 : Int32)
    else
      (3 : Int32)
  else
    (2 : Int32)
noncomputable def A_rrF (σ : ex_S) (q iw nu dg : Int32) (L : Int64) : ex_S := if (σ.1 3).toInt < q.toInt then ex_lt (A_rr257 iw nu) (fun v => sI 4 v (sI 2 q (sI 5 dg (sL 0 L σ)))) else sI 2 q (sI 5 dg (sL 0 L σ))
noncomputable def A_rr (σ : ex_S) : Nat → Int32 → Int32 → Int32 → Int32 → Int64 → ex_S
  | 0, q, iw, nu, dg, L => A_rrF σ q iw nu dg L
  | k + 1, q, iw, nu, dg, L => (if q.toInt < (σ.1 0).toInt then
      ex_lt (A_rr61 (σ.2.2.1 0 q.toNatClampNeg)) (fun a => ex_lt (A_rr82 (σ.2.2.1 0 q.toNatClampNeg)) (fun g => ex_lt (A_rr99 a g) (fun go => if go = 0 then A_rrF σ q iw nu dg L else
        ex_lt (A_rr132 iw a q (σ.1 3)) (fun iw1 => ex_lt (A_rr160 nu g q (σ.1 3)) (fun nu1 => ex_lt (A_rr184 iw1 L (σ.2.2.1 0 q.toNatClampNeg)) (fun L1 => ex_lt (A_rr212 nu1 dg (σ.2.2.1 0 q.toNatClampNeg)) (fun dg1 => A_rr σ k (q + 1) iw1 nu1 dg1 L1)))))))
    else A_rrF σ q iw nu dg L)
theorem A_rr_s {σ : ex_S} {k : Nat} {q iw nu dg : Int32} {L : Int64} : A_rr σ (k + 1) q iw nu dg L = (if q.toInt < (σ.1 0).toInt then
      ex_lt (A_rr61 (σ.2.2.1 0 q.toNatClampNeg)) (fun a => ex_lt (A_rr82 (σ.2.2.1 0 q.toNatClampNeg)) (fun g => ex_lt (A_rr99 a g) (fun go => if go = 0 then A_rrF σ q iw nu dg L else
        ex_lt (A_rr132 iw a q (σ.1 3)) (fun iw1 => ex_lt (A_rr160 nu g q (σ.1 3)) (fun nu1 => ex_lt (A_rr184 iw1 L (σ.2.2.1 0 q.toNatClampNeg)) (fun L1 => ex_lt (A_rr212 nu1 dg (σ.2.2.1 0 q.toNatClampNeg)) (fun dg1 => A_rr σ k (q + 1) iw1 nu1 dg1 L1)))))))
    else A_rrF σ q iw nu dg L) := rfl
noncomputable def A_readRun (σ : ex_S) : ex_S := A_rr σ 941 (σ.1 2) 1 1 0 0
theorem A_rr99_b (a g : Int32) : A_rr99 a g = 0 ∨ A_rr99 a g = 1 := by
  unfold A_rr99
  (repeat' split) <;> first | exact Or.inl rfl | exact Or.inr rfl
theorem ex_one {r : Int32} (h : r = 0 ∨ r = 1) (h2 : ¬ r = 0) : r = 1 := h.resolve_left h2
noncomputable def A_nxt (τ : ex_S) : ex_S :=
  if ((τ.1 1)).toInt < ((τ.1 0)).toInt then
    if ((τ.1 2)).toInt < ((τ.1 1)).toInt then
      if ((τ.1 2)).toInt < ((τ.1 0)).toInt then
        ex_lt (A_isSign ((τ.2.2.1 0) ((τ.1 2)).toNatClampNeg)) (fun r15 =>
        if r15 = 0 then
          ex_lt (A_readRun (sI 6 (-1 : Int32) (sI 4 (0 : Int32) (sI 3 (τ.1 2) τ)))) (fun σ18 =>
          if (σ18.1 4) = (2 : Int32) then
            ex_lt (A_toldWord σ18) (fun r22 =>
            (sI 6 r22 σ18))
          else
            (sI 6 (-1 : Int32) σ18))
        else
          (sI 2 ((τ.1 2) + (1 : Int32)) (sI 4 ((τ.2.2.1 0) ((τ.1 2)).toNatClampNeg) (sI 6 (-1 : Int32) (sI 4 (0 : Int32) (sI 3 (τ.1 2) τ))))))
      else
        (sI 4 (1 : Int32) (sI 6 (-1 : Int32) (sI 4 (0 : Int32) (sI 3 (τ.1 2) τ))))
    else
      (sI 3 (τ.1 1) (sI 6 (-1 : Int32) (sI 4 (0 : Int32) (sI 3 (τ.1 2) τ))))
  else
    if ((τ.1 2)).toInt < ((τ.1 0)).toInt then
      ex_lt (A_isSign ((τ.2.2.1 0) ((τ.1 2)).toNatClampNeg)) (fun r3 =>
      if r3 = 0 then
        ex_lt (A_readRun (sI 6 (-1 : Int32) (sI 4 (0 : Int32) (sI 3 (τ.1 2) τ)))) (fun σ6 =>
        if (σ6.1 4) = (2 : Int32) then
          ex_lt (A_toldWord σ6) (fun r11 =>
          (sI 6 r11 σ6))
        else
          (sI 6 (-1 : Int32) σ6))
      else
        (sI 2 ((τ.1 2) + (1 : Int32)) (sI 4 ((τ.2.2.1 0) ((τ.1 2)).toNatClampNeg) (sI 6 (-1 : Int32) (sI 4 (0 : Int32) (sI 3 (τ.1 2) τ))))))
    else
      (sI 4 (1 : Int32) (sI 6 (-1 : Int32) (sI 4 (0 : Int32) (sI 3 (τ.1 2) τ))))
noncomputable def A_next (σ : ex_S) : ex_S := A_nxt (sI 2 (ex_sk (σ.2.2.1 0) (σ.1 0) 941 (σ.1 2)) σ)
noncomputable def A_takeSign (ch : Int32) (σ : ex_S) : Int32 × ex_S :=
  if (σ.1 4) = ch then
    ex_lt (A_next σ) (fun σ2 =>
    ((1 : Int32), σ2))
  else
    ex_bd (A_failAs (1 : Int32) σ) (fun r6 σ7 =>
    (r6, σ7))
noncomputable def A_takeNumber (lo : Int32) (hi : Int32) (σ : ex_S) : Int32 × ex_S :=
  if (σ.1 4) = (3 : Int32) then
    if ((σ.1 5)).toInt < (lo).toInt then
      ex_bd (A_failAs (2 : Int32) σ) (fun r3 σ4 =>
      (r3, σ4))
    else
      if (hi).toInt < ((σ.1 5)).toInt then
        ex_bd (A_failAs (2 : Int32) σ) (fun r14 σ15 =>
        (r14, σ15))
      else
        ex_lt (A_next (sI 7 (σ.1 5) σ)) (fun σ10 =>
        ((1 : Int32), σ10))
  else
    ex_bd (A_failAs (1 : Int32) σ) (fun r19 σ20 =>
    (r19, σ20))
noncomputable def A_takeWay (σ : ex_S) : Int32 × ex_S :=
  if (σ.1 6) = (1 : Int32) then
    if (σ.1 6) = (1 : Int32) then
      ex_lt (A_next (sI 8 (1 : Int32) σ)) (fun σ7 =>
      ((1 : Int32), σ7))
    else
      ex_lt (A_next (sI 8 (-1 : Int32) σ)) (fun σ3 =>
      ((1 : Int32), σ3))
  else
    if (σ.1 6) = (2 : Int32) then
      if (σ.1 6) = (1 : Int32) then
        ex_lt (A_next (sI 8 (1 : Int32) σ)) (fun σ18 =>
        ((1 : Int32), σ18))
      else
        ex_lt (A_next (sI 8 (-1 : Int32) σ)) (fun σ14 =>
        ((1 : Int32), σ14))
    else
      ex_bd (A_failAs (1 : Int32) σ) (fun r22 σ23 =>
      (r22, σ23))
noncomputable def A_townNamed (nm : Int64) (σ : ex_S) : Int32 := ex_find (σ.2.2.2 1) nm (σ.1 11).toInt.toNat 0
noncomputable def A_isTold (nm : Int64) (σ : ex_S) : Int32 := if ex_find (σ.2.2.2 2) nm (σ.1 13).toInt.toNat 0 = -1 then (if A_townNamed nm σ = -1 then 0 else 1) else 1
theorem ex_nI1 {k : Nat} (h : k < 1000) : ¬ nI k = -1 := by
  intro q
  have h1 := congrArg Int32.toInt q
  rw [nI_toInt (by omega)] at h1
  have h2 : (-1 : Int32).toInt = -1 := by decide
  omega
noncomputable def A_takeNewName (σ : ex_S) : Int32 × ex_S :=
  ex_lt (A_isName σ) (fun r1 =>
  if r1 = 0 then
    ex_bd (A_failAs (1 : Int32) σ) (fun r17 σ18 =>
    (r17, σ18))
  else
    ex_lt (A_isTold (σ.2.1 0) σ) (fun r4 =>
    if r4 = 0 then
      ex_lt (A_next (sL 1 (σ.2.1 0) σ)) (fun σ7 =>
      ((1 : Int32), σ7))
    else
      ex_bd (A_failAs (3 : Int32) σ) (fun r12 σ13 =>
      (r12, σ13))))
noncomputable def A_takeTown (un : Int32) (σ : ex_S) : Int32 × ex_S :=
  ex_lt (A_isName σ) (fun r1 =>
  if r1 = 0 then
    ex_bd (A_failAs (1 : Int32) σ) (fun r23 σ24 =>
    (r23, σ24))
  else
    ex_lt (A_townNamed (σ.2.1 0) σ) (fun r4 =>
    if r4 = (-1 : Int32) then
      ex_bd (A_failAs (3 : Int32) σ) (fun r7 σ8 =>
      (r7, σ8))
    else
      if r4 = un then
        ex_bd (A_failAs (3 : Int32) σ) (fun r18 σ19 =>
        (r18, σ19))
      else
        ex_lt (A_next (sI 7 r4 σ)) (fun σ14 =>
        ((1 : Int32), σ14))))
noncomputable def A_makeEmpty (σ : ex_S) : ex_S :=
  (sR 11 (upd (upd (upd (σ.2.2.1 11) 0 (3 : Int32)) 1 (2 : Int32)) 2 (1 : Int32)) (sR 11 (upd (upd (σ.2.2.1 11) 0 (3 : Int32)) 1 (2 : Int32)) (sR 11 (upd (σ.2.2.1 11) 0 (3 : Int32)) (sI 13 (0 : Int32) (sI 12 (0 : Int32) (sI 11 (0 : Int32) σ))))))
noncomputable def A_begin (mo : Int32) (σ : ex_S) : ex_S :=
  ex_lt (A_next (sI 10 (0 : Int32) (sI 9 (0 : Int32) (sI 2 (0 : Int32) (sI 1 mo σ))))) (fun σ1 =>
  σ1)
noncomputable def A_readTown (σ : ex_S) : Int32 × ex_S :=
  if ((σ.1 11)).toInt < ((7 : Int32)).toInt then
    ex_lt (A_next σ) (fun σ2 =>
    ex_bd (A_takeNewName σ2) (fun r6 σ7 =>
    if r6 = 0 then
      ((0 : Int32), σ7)
    else
      ex_bd (A_takeNumber (0 : Int32) (60 : Int32) σ7) (fun r13 σ14 =>
      if r13 = 0 then
        ((0 : Int32), σ14)
      else
        if (σ14.1 4) = (59 : Int32) then
          ((1 : Int32), (sI 11 ((σ14.1 11) + (1 : Int32)) (sR 2 (upd (σ14.2.2.1 2) ((σ.1 11)).toNatClampNeg (0 : Int32)) (sR 1 (upd (σ14.2.2.1 1) ((σ.1 11)).toNatClampNeg (σ14.1 7)) (sQ 1 (vp_updL (σ14.2.2.2 1) ((σ.1 11)).toNatClampNeg (σ14.2.1 1)) σ14)))))
        else
          ex_bd (A_takeWay (sI 11 ((σ14.1 11) + (1 : Int32)) (sR 2 (upd (σ14.2.2.1 2) ((σ.1 11)).toNatClampNeg (0 : Int32)) (sR 1 (upd (σ14.2.2.1 1) ((σ.1 11)).toNatClampNeg (σ14.1 7)) (sQ 1 (vp_updL (σ14.2.2.2 1) ((σ.1 11)).toNatClampNeg (σ14.2.1 1)) σ14))))) (fun r20 σ21 =>
          if r20 = 0 then
            ((0 : Int32), σ21)
          else
            ex_bd (A_takeNumber (1 : Int32) (30 : Int32) σ21) (fun r26 σ27 =>
            if r26 = 0 then
              ((0 : Int32), σ27)
            else
              ((1 : Int32), (sR 2 (upd (σ27.2.2.1 2) ((σ.1 11)).toNatClampNeg ((σ27.1 8) * (σ27.1 7))) σ27)))))))
  else
    ex_bd (A_failAs (4 : Int32) σ) (fun r32 σ33 =>
    (r32, σ33))
noncomputable def A_readTerm (σ : ex_S) : Int32 × ex_S :=
  if ((σ.1 12)).toInt < ((12 : Int32)).toInt then
    ex_lt (A_next σ) (fun σ2 =>
    ex_bd (A_takeTown (-1 : Int32) σ2) (fun r6 σ7 =>
    if r6 = 0 then
      ((0 : Int32), σ7)
    else
      ex_bd (A_takeNumber (0 : Int32) (399 : Int32) (sR 3 (upd (σ7.2.2.1 3) ((σ.1 12)).toNatClampNeg (σ7.1 7)) σ7)) (fun r13 σ14 =>
      if r13 = 0 then
        ((0 : Int32), σ14)
      else
        ex_bd (A_takeNumber ((upd (σ14.2.2.1 4) ((σ.1 12)).toNatClampNeg (σ14.1 7)) ((σ.1 12)).toNatClampNeg) (399 : Int32) (sR 4 (upd (σ14.2.2.1 4) ((σ.1 12)).toNatClampNeg (σ14.1 7)) σ14)) (fun r19 σ20 =>
        if r19 = 0 then
          ((0 : Int32), σ20)
        else
          ex_bd (A_takeWay (sR 5 (upd (σ20.2.2.1 5) ((σ.1 12)).toNatClampNeg (σ20.1 7)) σ20)) (fun r25 σ26 =>
          if r25 = 0 then
            ((0 : Int32), σ26)
          else
            ex_bd (A_takeNumber (0 : Int32) (30 : Int32) σ26) (fun r31 σ32 =>
            if r31 = 0 then
              ((0 : Int32), σ32)
            else
              ((1 : Int32), (sI 12 ((σ32.1 12) + (1 : Int32)) (sR 6 (upd (σ32.2.2.1 6) ((σ.1 12)).toNatClampNeg ((σ32.1 8) * (σ32.1 7))) σ32)))))))))
  else
    ex_bd (A_failAs (4 : Int32) σ) (fun r37 σ38 =>
    (r37, σ38))
noncomputable def A_readTrain (σ : ex_S) : Int32 × ex_S :=
  if ((σ.1 13)).toInt < ((8 : Int32)).toInt then
    ex_lt (A_next σ) (fun σ2 =>
    ex_bd (A_takeNewName σ2) (fun r6 σ7 =>
    if r6 = 0 then
      ((0 : Int32), σ7)
    else
      ex_bd (A_takeTown (-1 : Int32) (sQ 2 (vp_updL (σ7.2.2.2 2) ((σ.1 13)).toNatClampNeg (σ7.2.1 1)) σ7)) (fun r13 σ14 =>
      if r13 = 0 then
        ((0 : Int32), σ14)
      else
        ex_bd (A_takeTown ((upd (σ14.2.2.1 7) ((σ.1 13)).toNatClampNeg (σ14.1 7)) ((σ.1 13)).toNatClampNeg) (sR 7 (upd (σ14.2.2.1 7) ((σ.1 13)).toNatClampNeg (σ14.1 7)) σ14)) (fun r19 σ20 =>
        if r19 = 0 then
          ((0 : Int32), σ20)
        else
          ex_bd (A_takeNumber (0 : Int32) (600 : Int32) (sR 8 (upd (σ20.2.2.1 8) ((σ.1 13)).toNatClampNeg (σ20.1 7)) σ20)) (fun r25 σ26 =>
          if r25 = 0 then
            ((0 : Int32), σ26)
          else
            ex_bd (A_takeNumber (1 : Int32) (200 : Int32) (sR 9 (upd (σ26.2.2.1 9) ((σ.1 13)).toNatClampNeg (σ26.1 7)) σ26)) (fun r31 σ32 =>
            if r31 = 0 then
              ((0 : Int32), σ32)
            else
              ((1 : Int32), (sI 13 ((σ32.1 13) + (1 : Int32)) (sR 10 (upd (σ32.2.2.1 10) ((σ.1 13)).toNatClampNeg (σ32.1 7)) σ32)))))))))
  else
    ex_bd (A_failAs (4 : Int32) σ) (fun r37 σ38 =>
    (r37, σ38))
noncomputable def A_readSetting (wh : Int32) (σ : ex_S) : Int32 × ex_S :=
  if (wh).toInt < 0 then
    ex_bd (A_failAs (1 : Int32) σ) (fun r2 σ3 =>
    (r2, σ3))
  else
    if (wh).toInt < ((3 : Int32)).toInt then
      if ((σ.2.2.1 12) (wh).toNatClampNeg) = 0 then
        ex_lt (A_next (sR 12 (upd (σ.2.2.1 12) (wh).toNatClampNeg (vp_nar .boolean (1 : Int32))) σ)) (fun σ10 =>
        ex_bd (A_takeNumber (ab_lo.getD (wh).toNatClampNeg 0) (ab_hi.getD (wh).toNatClampNeg 0) σ10) (fun r14 σ15 =>
        if r14 = 0 then
          ((0 : Int32), σ15)
        else
          ((1 : Int32), (sR 11 (upd (σ15.2.2.1 11) (wh).toNatClampNeg (σ15.1 7)) σ15))))
      else
        ex_bd (A_failAs (3 : Int32) σ) (fun r20 σ21 =>
        (r20, σ21))
    else
      ex_bd (A_failAs (1 : Int32) σ) (fun r25 σ26 =>
      (r25, σ26))
noncomputable def A_readLine (σ : ex_S) : Int32 × ex_S :=
  if (σ.1 6) = 0 then
    ex_bd (A_readTown σ) (fun r2 σ3 =>
    (r2, σ3))
  else
    if (σ.1 6) = 1 then
      ex_bd (A_failAs (1 : Int32) σ) (fun r7 σ8 =>
      (r7, σ8))
    else
      if (σ.1 6) = 2 then
        ex_bd (A_failAs (1 : Int32) σ) (fun r14 σ15 =>
        (r14, σ15))
      else
        if (σ.1 6) = 3 then
          ex_bd (A_readTerm σ) (fun r20 σ21 =>
          (r20, σ21))
        else
          if (σ.1 6) = 4 then
            ex_bd (A_readTrain σ) (fun r25 σ26 =>
            (r25, σ26))
          else
            if (σ.1 6) = 5 then
              ex_bd (A_readSetting ((σ.1 6) - (5 : Int32)) σ) (fun r30 σ31 =>
              (r30, σ31))
            else
              if (σ.1 6) = 6 then
                ex_bd (A_readSetting ((σ.1 6) - (5 : Int32)) σ) (fun r35 σ36 =>
                (r35, σ36))
              else
                if (σ.1 6) = 7 then
                  ex_bd (A_readSetting ((σ.1 6) - (5 : Int32)) σ) (fun r40 σ41 =>
                  (r40, σ41))
                else
                  ex_bd (A_failAs (1 : Int32) σ) (fun r44 σ45 =>
                  (r44, σ45))
noncomputable def A_IN0 (σ : ex_S) : Prop := (0 ≤ (σ.1 0).toInt ∧ (σ.1 0).toInt ≤ 940) ∧ (0 ≤ (σ.1 11).toInt ∧ (σ.1 11).toInt ≤ 7) ∧ (0 ≤ (σ.1 12).toInt ∧ (σ.1 12).toInt ≤ 12) ∧ (0 ≤ (σ.1 13).toInt ∧ (σ.1 13).toInt ≤ 8)
theorem A_IN0_b {σ : ex_S} (hI : A_IN0 σ) {b c d : Int32} : A_INV (sI 10 d (sI 9 c (sI 2 0 (sI 1 b σ)))) := And.intro hI.1 (And.intro ⟨show (0 : Int) ≤ (0 : Int32).toInt by decide, show (0 : Int32).toInt ≤ (σ.1 0).toInt from (show (0 : Int32).toInt = 0 by decide) ▸ hI.1.1⟩ hI.2)
noncomputable def A_ri : Nat → Nat → ex_S → Int32 × ex_S
  | 0, n, τ => (nI n, τ)
  | k + 1, n, τ =>
    ex_lt (A_atEnd τ) (fun r5 =>
    if r5 = 0 then
      ex_bd (A_readLine τ) (fun r10 σ11 =>
      if r10 = 0 then
        ((-1 : Int32), σ11)
      else
        ex_bd (A_takeSign (59 : Int32) σ11) (fun r15 σ16 =>
        if r15 = 0 then
          ((-1 : Int32), σ16)
        else
          A_ri k (n + 1) σ16))
    else
      ((nI n), τ))
theorem A_ri_s {k n : Nat} {τ : ex_S} : A_ri (k + 1) n τ =
    ex_lt (A_atEnd τ) (fun r5 =>
    if r5 = 0 then
      ex_bd (A_readLine τ) (fun r10 σ11 =>
      if r10 = 0 then
        ((-1 : Int32), σ11)
      else
        ex_bd (A_takeSign (59 : Int32) σ11) (fun r15 σ16 =>
        if r15 = 0 then
          ((-1 : Int32), σ16)
        else
          A_ri k (n + 1) σ16))
    else
      ((nI n), τ)) := rfl
noncomputable def A_readInto (σ : ex_S) : Int32 × ex_S :=
  ex_lt (A_makeEmpty σ) (fun σ21 =>
  ex_lt (A_begin (900 : Int32) (sR 12 (upd (upd (upd (σ21.2.2.1 12) 0 (vp_nar .boolean (0 : Int32))) 1 (vp_nar .boolean (0 : Int32))) 2 (vp_nar .boolean (0 : Int32))) (sR 12 (upd (upd (σ21.2.2.1 12) 0 (vp_nar .boolean (0 : Int32))) 1 (vp_nar .boolean (0 : Int32))) (sR 12 (upd (σ21.2.2.1 12) 0 (vp_nar .boolean (0 : Int32))) σ21)))) (fun σ28 =>
  A_ri 901 0 σ28))
theorem ex_r3 {f g h f1 g1 h1 : Nat → Int32} {σ : ex_S} : sR 15 h1 (sR 14 g1 (sR 13 f1 (sR 15 h (sR 14 g (sR 13 f σ))))) = sR 15 h1 (sR 14 g1 (sR 13 f1 σ)) := by
  unfold sR
  refine Prod.ext rfl (Prod.ext rfl (Prod.ext (funext fun j => ?_) rfl))
  show (bif Nat.beq j 15 then h1 else bif Nat.beq j 14 then g1 else bif Nat.beq j 13 then f1 else bif Nat.beq j 15 then h else bif Nat.beq j 14 then g else bif Nat.beq j 13 then f else σ.2.2.1 j) = bif Nat.beq j 15 then h1 else bif Nat.beq j 14 then g1 else bif Nat.beq j 13 then f1 else σ.2.2.1 j
  cases Nat.beq j 15 <;> cases Nat.beq j 14 <;> cases Nat.beq j 13 <;> rfl
noncomputable def A_valley (σ : ex_S) : Int32 := ex_bd (A_readInto σ) (fun r τ => if r = -1 then -1 - τ.1 10 else r)
/-- what the class's reader and valleys hold behind valley: the new land's values, or the draft's alone have changed -/
noncomputable def A_vend (L : List ex_E) (σ : ex_S) (w : List ex_E) : Prop := ((A_readInto σ).1 = -1 ∧ w = WA (26,L) 6 (sI 0 (0 : Int32) (A_readInto σ).2)) ∨ (¬ (A_readInto σ).1 = -1 ∧ ∃ f g h, w = WA (6,L) 26 (sI 22 (0 : Int32) (sI 20 (0 : Int32) (sR 15 h (sR 14 g (sR 13 f (sI 18 0 (sI 17 0 (sI 16 0 (sI 0 (0 : Int32) (A_readInto σ).2))))))))))
theorem bl_X4_failAs (why : Int32) (σ : ex_S) : (A_failAs why σ).1 = 0 ∨ (A_failAs why σ).1 = 1 := by
  unfold A_failAs
  exact Or.inl rfl
theorem bl_X4_takeSign (ch : Int32) (σ : ex_S) : (A_takeSign ch σ).1 = 0 ∨ (A_takeSign ch σ).1 = 1 := by
  unfold A_takeSign
  simp only [ex_bd, ex_lt]
  (repeat' (with_reducible split)) <;> first | with_reducible exact Or.inl rfl | with_reducible exact Or.inr rfl | with_reducible exact bl_X4_failAs _  _
theorem bl_X4_takeNumber (lo : Int32) (hi : Int32) (σ : ex_S) : (A_takeNumber lo hi σ).1 = 0 ∨ (A_takeNumber lo hi σ).1 = 1 := by
  unfold A_takeNumber
  simp only [ex_bd, ex_lt]
  (repeat' (with_reducible split)) <;> first | with_reducible exact Or.inl rfl | with_reducible exact Or.inr rfl | with_reducible exact bl_X4_failAs _  _ | with_reducible exact bl_X4_takeSign _  _
theorem bl_X4_takeWay (σ : ex_S) : (A_takeWay σ).1 = 0 ∨ (A_takeWay σ).1 = 1 := by
  unfold A_takeWay
  simp only [ex_bd, ex_lt]
  (repeat' (with_reducible split)) <;> first | with_reducible exact Or.inl rfl | with_reducible exact Or.inr rfl | with_reducible exact bl_X4_failAs _  _ | with_reducible exact bl_X4_takeSign _  _ | with_reducible exact bl_X4_takeNumber _ _  _
theorem bl_X4_takeNewName (σ : ex_S) : (A_takeNewName σ).1 = 0 ∨ (A_takeNewName σ).1 = 1 := by
  unfold A_takeNewName
  simp only [ex_bd, ex_lt]
  (repeat' (with_reducible split)) <;> first | with_reducible exact Or.inl rfl | with_reducible exact Or.inr rfl | with_reducible exact bl_X4_failAs _  _ | with_reducible exact bl_X4_takeSign _  _ | with_reducible exact bl_X4_takeNumber _ _  _ | with_reducible exact bl_X4_takeWay  _
theorem bl_X4_takeTown (un : Int32) (σ : ex_S) : (A_takeTown un σ).1 = 0 ∨ (A_takeTown un σ).1 = 1 := by
  unfold A_takeTown
  simp only [ex_bd, ex_lt]
  (repeat' (with_reducible split)) <;> first | with_reducible exact Or.inl rfl | with_reducible exact Or.inr rfl | with_reducible exact bl_X4_failAs _  _ | with_reducible exact bl_X4_takeSign _  _ | with_reducible exact bl_X4_takeNumber _ _  _ | with_reducible exact bl_X4_takeWay  _ | with_reducible exact bl_X4_takeNewName  _
theorem bl_X9_readTown (σ : ex_S) : (A_readTown σ).1 = 0 ∨ (A_readTown σ).1 = 1 := by
  unfold A_readTown
  simp only [ex_bd, ex_lt]
  (repeat' (with_reducible split)) <;> first | with_reducible exact Or.inl rfl | with_reducible exact Or.inr rfl | with_reducible exact bl_X4_failAs _  _ | with_reducible exact bl_X4_takeSign _  _ | with_reducible exact bl_X4_takeNumber _ _  _ | with_reducible exact bl_X4_takeWay  _ | with_reducible exact bl_X4_takeNewName  _ | with_reducible exact bl_X4_takeTown _  _
theorem bl_X9_readTerm (σ : ex_S) : (A_readTerm σ).1 = 0 ∨ (A_readTerm σ).1 = 1 := by
  unfold A_readTerm
  simp only [ex_bd, ex_lt]
  (repeat' (with_reducible split)) <;> first | with_reducible exact Or.inl rfl | with_reducible exact Or.inr rfl | with_reducible exact bl_X4_failAs _  _ | with_reducible exact bl_X4_takeSign _  _ | with_reducible exact bl_X4_takeNumber _ _  _ | with_reducible exact bl_X4_takeWay  _ | with_reducible exact bl_X4_takeNewName  _ | with_reducible exact bl_X4_takeTown _  _ | with_reducible exact bl_X9_readTown  _
theorem bl_X9_readTrain (σ : ex_S) : (A_readTrain σ).1 = 0 ∨ (A_readTrain σ).1 = 1 := by
  unfold A_readTrain
  simp only [ex_bd, ex_lt]
  (repeat' (with_reducible split)) <;> first | with_reducible exact Or.inl rfl | with_reducible exact Or.inr rfl | with_reducible exact bl_X4_failAs _  _ | with_reducible exact bl_X4_takeSign _  _ | with_reducible exact bl_X4_takeNumber _ _  _ | with_reducible exact bl_X4_takeWay  _ | with_reducible exact bl_X4_takeNewName  _ | with_reducible exact bl_X4_takeTown _  _ | with_reducible exact bl_X9_readTown  _ | with_reducible exact bl_X9_readTerm  _
theorem bl_X9_readSetting (wh : Int32) (σ : ex_S) : (A_readSetting wh σ).1 = 0 ∨ (A_readSetting wh σ).1 = 1 := by
  unfold A_readSetting
  simp only [ex_bd, ex_lt]
  (repeat' (with_reducible split)) <;> first | with_reducible exact Or.inl rfl | with_reducible exact Or.inr rfl | with_reducible exact bl_X4_failAs _  _ | with_reducible exact bl_X4_takeSign _  _ | with_reducible exact bl_X4_takeNumber _ _  _ | with_reducible exact bl_X4_takeWay  _ | with_reducible exact bl_X4_takeNewName  _ | with_reducible exact bl_X4_takeTown _  _ | with_reducible exact bl_X9_readTown  _ | with_reducible exact bl_X9_readTerm  _ | with_reducible exact bl_X9_readTrain  _
theorem bl_X9_readLine (σ : ex_S) : (A_readLine σ).1 = 0 ∨ (A_readLine σ).1 = 1 := by
  unfold A_readLine
  simp only [ex_bd, ex_lt]
  (repeat' (with_reducible split)) <;> first | with_reducible exact Or.inl rfl | with_reducible exact Or.inr rfl | with_reducible exact bl_X4_failAs _  _ | with_reducible exact bl_X4_takeSign _  _ | with_reducible exact bl_X4_takeNumber _ _  _ | with_reducible exact bl_X4_takeWay  _ | with_reducible exact bl_X4_takeNewName  _ | with_reducible exact bl_X4_takeTown _  _ | with_reducible exact bl_X9_readTown  _ | with_reducible exact bl_X9_readTerm  _ | with_reducible exact bl_X9_readTrain  _ | with_reducible exact bl_X9_readSetting _  _
theorem sI_1 {k : Nat} {v : Int32} {σ : ex_S} {j : Nat} : (sI k v σ).1 j = if j = k then v else σ.1 j := by
  show (bif Nat.beq j k then v else σ.1 j) = if j = k then v else σ.1 j
  cases hb : Nat.beq j k
  · exact (if_neg (Nat.ne_of_beq_eq_false hb)).symm
  · exact (if_pos (Nat.eq_of_beq_eq_true hb)).symm
theorem sL_1 {k : Nat} {v : Int64} {σ : ex_S} {j : Nat} : (sL k v σ).2.1 j = if j = k then v else σ.2.1 j := by
  show (bif Nat.beq j k then v else σ.2.1 j) = if j = k then v else σ.2.1 j
  cases hb : Nat.beq j k
  · exact (if_neg (Nat.ne_of_beq_eq_false hb)).symm
  · exact (if_pos (Nat.eq_of_beq_eq_true hb)).symm
theorem sR_1 {k : Nat} {f : Nat → Int32} {σ : ex_S} {j : Nat} : (sR k f σ).2.2.1 j = if j = k then f else σ.2.2.1 j := by
  show (bif Nat.beq j k then f else σ.2.2.1 j) = if j = k then f else σ.2.2.1 j
  cases hb : Nat.beq j k
  · exact (if_neg (Nat.ne_of_beq_eq_false hb)).symm
  · exact (if_pos (Nat.eq_of_beq_eq_true hb)).symm
theorem sQ_1 {k : Nat} {f : Nat → Int64} {σ : ex_S} {j : Nat} : (sQ k f σ).2.2.2 j = if j = k then f else σ.2.2.2 j := by
  show (bif Nat.beq j k then f else σ.2.2.2 j) = if j = k then f else σ.2.2.2 j
  cases hb : Nat.beq j k
  · exact (if_neg (Nat.ne_of_beq_eq_false hb)).symm
  · exact (if_pos (Nat.eq_of_beq_eq_true hb)).symm
/-- what the small steps of the class's reader leave alone: ints from 11 on, 0, 1 -/
noncomputable def A_FR (σ τ : ex_S) : Prop := (∀ k, 11 ≤ k → τ.1 k = σ.1 k) ∧ (τ.1 0 = σ.1 0 ∧ τ.1 1 = σ.1 1)
theorem A_FR_0 (σ : ex_S) : A_FR σ σ := And.intro (fun _ _ => rfl) (And.intro rfl rfl)
theorem A_FR_t {σ τ υ : ex_S} (h2 : A_FR τ υ) (h1 : A_FR σ τ) : A_FR σ υ := And.intro (fun k hk => (h2.1 k hk).trans (h1.1 k hk)) (And.intro (h2.2.1.trans h1.2.1) (h2.2.2.trans h1.2.2))
theorem A_FR_I {σ τ : ex_S} {k : Nat} {v : Int32} (hk : 2 ≤ k ∧ k < 11) (h : A_FR σ τ) : A_FR σ (sI k v τ) :=
  And.intro (fun j hj => (sI_1.trans (if_neg (by omega))).trans (h.1 j hj)) (And.intro ((sI_1.trans (if_neg (by omega))).trans h.2.1) ((sI_1.trans (if_neg (by omega))).trans h.2.2))
theorem A_FR_L {σ τ : ex_S} {k : Nat} {v : Int64} (h : A_FR σ τ) : A_FR σ (sL k v τ) := h
theorem A_FR_R {σ τ : ex_S} {k : Nat} {f : Nat → Int32} (h : A_FR σ τ) : A_FR σ (sR k f τ) := h
theorem A_FR_Q {σ τ : ex_S} {k : Nat} {f : Nat → Int64} (h : A_FR σ τ) : A_FR σ (sQ k f τ) := h
theorem A_INV_I {σ : ex_S} {k : Nat} {v : Int32} (h : A_INV σ) (hk : ¬ 0 = k ∧ ¬ 2 = k ∧ ¬ 11 = k ∧ ¬ 12 = k ∧ ¬ 13 = k) : A_INV (sI k v σ) := by
  unfold A_INV at h ⊢
  simp only [sI_1, if_neg hk.1, if_neg hk.2.1, if_neg hk.2.2.1, if_neg hk.2.2.2.1, if_neg hk.2.2.2.2]
  exact h
theorem A_INV_L {σ : ex_S} {k : Nat} {v : Int64} (h : A_INV σ) : A_INV (sL k v σ) := h
theorem A_INV_R {σ : ex_S} {k : Nat} {f : Nat → Int32} (h : A_INV σ) : A_INV (sR k f σ) := h
theorem A_INV_Q {σ : ex_S} {k : Nat} {f : Nat → Int64} (h : A_INV σ) : A_INV (sQ k f σ) := h
theorem A_INV_11 {σ : ex_S} {v : Int32} (h : A_INV σ) (h0 : 0 ≤ v.toInt) (h1 : v.toInt ≤ 7) : A_INV (sI 11 v σ) := And.intro h.1 (And.intro h.2.1 (And.intro (And.intro h0 h1) h.2.2.2))
theorem A_INV_12 {σ : ex_S} {v : Int32} (h : A_INV σ) (h0 : 0 ≤ v.toInt) (h1 : v.toInt ≤ 12) : A_INV (sI 12 v σ) := And.intro h.1 (And.intro h.2.1 (And.intro h.2.2.1 (And.intro (And.intro h0 h1) h.2.2.2.2)))
theorem A_INV_13 {σ : ex_S} {v : Int32} (h : A_INV σ) (h0 : 0 ≤ v.toInt) (h1 : v.toInt ≤ 8) : A_INV (sI 13 v σ) := And.intro h.1 (And.intro h.2.1 (And.intro h.2.2.1 (And.intro h.2.2.2.1 (And.intro h0 h1))))
theorem A_INV_t {τ : ex_S} {f g : Nat → Int32} {q : Nat → Int64} (h : A_INV τ) (hb : (τ.1 11).toInt < 7) : A_INV (sI 11 ((τ.1 11) + (1 : Int32)) (sR 2 f (sR 1 g (sQ 1 q τ)))) := by
  have e7 : (7 : Int32).toInt = 7 := by decide
  have e := ex_inc (p := τ.1 11) (n := 7) (by rw [e7]; exact hb)
  have h9 := h.2.2.1
  exact A_INV_11 (A_INV_R (A_INV_R (A_INV_Q h))) (by omega) (by omega)
theorem A_INV_t11 {σ τ : ex_S} {f g : Nat → Int32} {q : Nat → Int64} (hb : (σ.1 11).toInt < ((7 : Int32)).toInt) (hF : A_FR σ τ) (h : A_INV τ) : A_INV (sI 11 ((τ.1 11) + (1 : Int32)) (sR 2 f (sR 1 g (sQ 1 q τ)))) := by
  have e7 : (7 : Int32).toInt = 7 := by decide
  have e := hF.1 11 (by decide)
  exact A_INV_t h (by rw [e]; omega)
theorem A_INV_t12 {σ τ : ex_S} {f : Nat → Int32} (hb : (σ.1 12).toInt < ((12 : Int32)).toInt) (hF : A_FR σ τ) (h : A_INV τ) : A_INV (sI 12 ((τ.1 12) + (1 : Int32)) (sR 6 f τ)) := by
  have e7 : (12 : Int32).toInt = 12 := by decide
  have e1 := hF.1 12 (by decide)
  have e := ex_inc (p := τ.1 12) (n := 12) (by rw [e1]; exact hb)
  have h9 := h.2.2.2.1
  rw [e1] at e h9
  exact A_INV_12 (A_INV_R h) (by rw [e1, e]; omega) (by rw [e1, e]; omega)
theorem A_INV_t13 {σ τ : ex_S} {f : Nat → Int32} (hb : (σ.1 13).toInt < ((8 : Int32)).toInt) (hF : A_FR σ τ) (h : A_INV τ) : A_INV (sI 13 ((τ.1 13) + (1 : Int32)) (sR 10 f τ)) := by
  have e7 : (8 : Int32).toInt = 8 := by decide
  have e1 := hF.1 13 (by decide)
  have e := ex_inc (p := τ.1 13) (n := 8) (by rw [e1]; exact hb)
  have h9 := h.2.2.2.2
  rw [e1] at e h9
  exact A_INV_13 (A_INV_R h) (by rw [e1, e]; omega) (by rw [e1, e]; omega)
theorem A_rr_f (σ : ex_S) : ∀ (k : Nat) (q iw nu dg : Int32) (L : Int64), ∃ q' iw' nu' dg' L', A_rr σ k q iw nu dg L = A_rrF σ q' iw' nu' dg' L' ∧ (0 ≤ q.toInt → q.toInt ≤ (σ.1 0).toInt → 0 ≤ q'.toInt ∧ q'.toInt ≤ (σ.1 0).toInt) := by
  intro k
  induction k with
  | zero => intro q iw nu dg L; exact ⟨q, iw, nu, dg, L, rfl, fun h0 h1 => ⟨h0, h1⟩⟩
  | succ k ih =>
    intro q iw nu dg L
    by_cases hq : q.toInt < (σ.1 0).toInt
    · by_cases hg : A_rr99 (A_rr61 (σ.2.2.1 0 q.toNatClampNeg)) (A_rr82 (σ.2.2.1 0 q.toNatClampNeg)) = 0
      · exact ⟨q, iw, nu, dg, L, A_rr_s.trans ((if_pos hq).trans (if_pos hg)), fun h0 h1 => ⟨h0, h1⟩⟩
      · have e := ex_inc hq
        obtain ⟨q', iw', nu', dg', L', e1, e2⟩ := ih (q + 1) (A_rr132 iw (A_rr61 (σ.2.2.1 0 q.toNatClampNeg)) q (σ.1 3)) (A_rr160 nu (A_rr82 (σ.2.2.1 0 q.toNatClampNeg)) q (σ.1 3)) (A_rr212 (A_rr160 nu (A_rr82 (σ.2.2.1 0 q.toNatClampNeg)) q (σ.1 3)) dg (σ.2.2.1 0 q.toNatClampNeg)) (A_rr184 (A_rr132 iw (A_rr61 (σ.2.2.1 0 q.toNatClampNeg)) q (σ.1 3)) L (σ.2.2.1 0 q.toNatClampNeg))
        exact ⟨q', iw', nu', dg', L', A_rr_s.trans ((if_pos hq).trans ((if_neg hg).trans e1)), fun h0 h1 => e2 (by omega) (by omega)⟩
    · exact ⟨q, iw, nu, dg, L, A_rr_s.trans (if_neg hq), fun h0 h1 => ⟨h0, h1⟩⟩
theorem fr_X4_readRun (σ : ex_S) : A_FR σ (A_readRun σ) := by
  obtain ⟨q, iw, nu, dg, L, e, hb⟩ := A_rr_f σ 941 (σ.1 2) 1 1 0 0
  unfold A_readRun
  rw [e]
  unfold A_rrF
  split
  · show A_FR σ (sI 4 (A_rr257 iw nu) (sI 2 q (sI 5 dg (sL 0 L σ))))
    exact A_FR_I (by decide) (A_FR_I (by decide) (A_FR_I (by decide) (A_FR_L (A_FR_0 σ))))
  · exact A_FR_I (by decide) (A_FR_I (by decide) (A_FR_L (A_FR_0 σ)))
theorem inv_X4_readRun (σ : ex_S) (hI : A_INV σ) : A_INV (A_readRun σ) := by
  obtain ⟨q, iw, nu, dg, L, e, hb⟩ := A_rr_f σ 941 (σ.1 2) 1 1 0 0
  have h2 := hb hI.2.1.1 hI.2.1.2
  unfold A_readRun
  rw [e]
  unfold A_rrF
  have h3 : A_INV (sI 2 q (sI 5 dg (sL 0 L σ))) := A_INV_pos (A_INV_I (A_INV_L hI) (by decide)) h2.1 h2.2
  split
  · show A_INV (sI 4 (A_rr257 iw nu) (sI 2 q (sI 5 dg (sL 0 L σ))))
    exact A_INV_I h3 (by decide)
  · exact h3
theorem A_INV_sg {τ : ex_S} {c : Int32} (hI : A_INV τ) (h : ((τ.1 2)).toInt < ((τ.1 0)).toInt) : A_INV (sI 2 ((τ.1 2) + (1 : Int32)) (sI 4 c (sI 6 (-1 : Int32) (sI 4 (0 : Int32) (sI 3 (τ.1 2) τ))))) := by
  have e := ex_inc h
  have h9 := hI.2.1
  exact A_INV_pos (A_INV_I (A_INV_I (A_INV_I (A_INV_I hI (by decide)) (by decide)) (by decide)) (by decide)) (by omega) (by show ((τ.1 2) + (1 : Int32)).toInt ≤ (τ.1 0).toInt; omega)
theorem A_nxt_f (τ : ex_S) : A_FR τ (A_nxt τ) := by
  unfold A_nxt
  simp only [ex_lt]
  repeat' (with_reducible split)
  all_goals (repeat (first | with_reducible exact A_FR_0 _ | with_reducible refine A_FR_I (by decide) ?_ | with_reducible refine A_FR_t (fr_X4_readRun _) ?_))
theorem A_nxt_i {τ : ex_S} (hI : A_INV τ) : A_INV (A_nxt τ) := by
  unfold A_nxt
  simp only [ex_lt]
  repeat' (with_reducible split)
  all_goals (first | with_reducible exact A_INV_sg hI (by assumption) | (repeat (first | with_reducible exact hI | with_reducible refine A_INV_I ?_ (by decide) | with_reducible refine inv_X4_readRun _ ?_)))
theorem ex_sk_b {f : Nat → Int32} {n : Int32} : ∀ (k : Nat) (p : Int32), 0 ≤ p.toInt → p.toInt ≤ n.toInt → 0 ≤ (ex_sk f n k p).toInt ∧ (ex_sk f n k p).toInt ≤ n.toInt := by
  intro k
  induction k with
  | zero => intro p h0 h1; exact ⟨h0, h1⟩
  | succ k ih =>
    intro p h0 h1
    rw [ex_sk_s]
    by_cases h : p.toInt < n.toInt
    · have e := ex_inc h
      rw [if_pos h]
      by_cases h2 : f p.toNatClampNeg = 32
      · rw [if_pos h2]; exact ih _ (by omega) (by omega)
      · rw [if_neg h2]
        by_cases h3 : f p.toNatClampNeg = 10
        · rw [if_pos h3]; exact ih _ (by omega) (by omega)
        · rw [if_neg h3]; exact ⟨h0, h1⟩
    · rw [if_neg h]; exact ⟨h0, h1⟩
theorem fr_X4_next (σ : ex_S) : A_FR σ (A_next σ) := by
  unfold A_next
  exact A_FR_t (A_nxt_f _) (A_FR_I (by decide) (A_FR_0 σ))
theorem inv_X4_next (σ : ex_S) (hI : A_INV σ) : A_INV (A_next σ) := by
  unfold A_next
  have h := ex_sk_b (f := σ.2.2.1 0) 941 (σ.1 2) hI.2.1.1 hI.2.1.2
  exact A_nxt_i (A_INV_pos hI h.1 h.2)
theorem fr_X4_failAs (why : Int32) (σ : ex_S) : A_FR σ (A_failAs why σ).2 := by
  show A_FR σ (sI 10 (σ.1 3) (sI 9 why σ))
  exact A_FR_I (by decide) (A_FR_I (by decide) (A_FR_0 σ))
theorem inv_X4_failAs (why : Int32) (σ : ex_S) (hI : A_INV σ) : A_INV (A_failAs why σ).2 := by
  show A_INV (sI 10 (σ.1 3) (sI 9 why σ))
  exact A_INV_I (A_INV_I hI (by decide)) (by decide)
theorem fr_X4_takeSign (ch : Int32) (σ : ex_S) : A_FR σ (A_takeSign ch σ).2 := by
  unfold A_takeSign
  simp only [ex_bd, ex_lt]
  repeat' (with_reducible split)
  all_goals (repeat' (first
    | with_reducible exact A_FR_0 _
    | with_reducible refine A_FR_t (fr_X4_next _) ?_
    | with_reducible refine A_FR_t (fr_X4_failAs _ _) ?_
    | with_reducible refine A_FR_I (by decide) ?_
    | with_reducible refine A_FR_L ?_
    ))
theorem inv_X4_takeSign (ch : Int32) (σ : ex_S) (hI : A_INV σ) : A_INV (A_takeSign ch σ).2 := by
  unfold A_takeSign
  simp only [ex_bd, ex_lt]
  repeat' (with_reducible split)
  all_goals (repeat' (first
    | with_reducible exact hI
    | with_reducible refine inv_X4_next _ ?_
    | with_reducible refine inv_X4_failAs _ _ ?_
    | with_reducible refine A_INV_I ?_ (by decide)
    | with_reducible refine A_INV_L ?_
    ))
theorem fr_X4_takeNumber (lo : Int32) (hi : Int32) (σ : ex_S) : A_FR σ (A_takeNumber lo hi σ).2 := by
  unfold A_takeNumber
  simp only [ex_bd, ex_lt]
  repeat' (with_reducible split)
  all_goals (repeat' (first
    | with_reducible exact A_FR_0 _
    | with_reducible refine A_FR_t (fr_X4_next _) ?_
    | with_reducible refine A_FR_t (fr_X4_failAs _ _) ?_
    | with_reducible refine A_FR_I (by decide) ?_
    | with_reducible refine A_FR_L ?_
    ))
theorem inv_X4_takeNumber (lo : Int32) (hi : Int32) (σ : ex_S) (hI : A_INV σ) : A_INV (A_takeNumber lo hi σ).2 := by
  unfold A_takeNumber
  simp only [ex_bd, ex_lt]
  repeat' (with_reducible split)
  all_goals (repeat' (first
    | with_reducible exact hI
    | with_reducible refine inv_X4_next _ ?_
    | with_reducible refine inv_X4_failAs _ _ ?_
    | with_reducible refine A_INV_I ?_ (by decide)
    | with_reducible refine A_INV_L ?_
    ))
theorem fr_X4_takeWay (σ : ex_S) : A_FR σ (A_takeWay σ).2 := by
  unfold A_takeWay
  simp only [ex_bd, ex_lt]
  repeat' (with_reducible split)
  all_goals (repeat' (first
    | with_reducible exact A_FR_0 _
    | with_reducible refine A_FR_t (fr_X4_next _) ?_
    | with_reducible refine A_FR_t (fr_X4_failAs _ _) ?_
    | with_reducible refine A_FR_I (by decide) ?_
    | with_reducible refine A_FR_L ?_
    ))
theorem inv_X4_takeWay (σ : ex_S) (hI : A_INV σ) : A_INV (A_takeWay σ).2 := by
  unfold A_takeWay
  simp only [ex_bd, ex_lt]
  repeat' (with_reducible split)
  all_goals (repeat' (first
    | with_reducible exact hI
    | with_reducible refine inv_X4_next _ ?_
    | with_reducible refine inv_X4_failAs _ _ ?_
    | with_reducible refine A_INV_I ?_ (by decide)
    | with_reducible refine A_INV_L ?_
    ))
theorem fr_X4_takeNewName (σ : ex_S) : A_FR σ (A_takeNewName σ).2 := by
  unfold A_takeNewName
  simp only [ex_bd, ex_lt]
  repeat' (with_reducible split)
  all_goals (repeat' (first
    | with_reducible exact A_FR_0 _
    | with_reducible refine A_FR_t (fr_X4_next _) ?_
    | with_reducible refine A_FR_t (fr_X4_failAs _ _) ?_
    | with_reducible refine A_FR_I (by decide) ?_
    | with_reducible refine A_FR_L ?_
    ))
theorem inv_X4_takeNewName (σ : ex_S) (hI : A_INV σ) : A_INV (A_takeNewName σ).2 := by
  unfold A_takeNewName
  simp only [ex_bd, ex_lt]
  repeat' (with_reducible split)
  all_goals (repeat' (first
    | with_reducible exact hI
    | with_reducible refine inv_X4_next _ ?_
    | with_reducible refine inv_X4_failAs _ _ ?_
    | with_reducible refine A_INV_I ?_ (by decide)
    | with_reducible refine A_INV_L ?_
    ))
theorem fr_X4_takeTown (un : Int32) (σ : ex_S) : A_FR σ (A_takeTown un σ).2 := by
  unfold A_takeTown
  simp only [ex_bd, ex_lt]
  repeat' (with_reducible split)
  all_goals (repeat' (first
    | with_reducible exact A_FR_0 _
    | with_reducible refine A_FR_t (fr_X4_next _) ?_
    | with_reducible refine A_FR_t (fr_X4_failAs _ _) ?_
    | with_reducible refine A_FR_I (by decide) ?_
    | with_reducible refine A_FR_L ?_
    ))
theorem inv_X4_takeTown (un : Int32) (σ : ex_S) (hI : A_INV σ) : A_INV (A_takeTown un σ).2 := by
  unfold A_takeTown
  simp only [ex_bd, ex_lt]
  repeat' (with_reducible split)
  all_goals (repeat' (first
    | with_reducible exact hI
    | with_reducible refine inv_X4_next _ ?_
    | with_reducible refine inv_X4_failAs _ _ ?_
    | with_reducible refine A_INV_I ?_ (by decide)
    | with_reducible refine A_INV_L ?_
    ))
theorem inv_X8_makeEmpty (σ : ex_S) (h : 0 ≤ (σ.1 0).toInt ∧ (σ.1 0).toInt ≤ 940) : A_IN0 (A_makeEmpty σ) := by
  unfold A_IN0 A_makeEmpty
  show (0 ≤ (σ.1 0).toInt ∧ (σ.1 0).toInt ≤ 940) ∧ (0 ≤ (0 : Int32).toInt ∧ (0 : Int32).toInt ≤ 7) ∧ (0 ≤ (0 : Int32).toInt ∧ (0 : Int32).toInt ≤ 12) ∧ (0 ≤ (0 : Int32).toInt ∧ (0 : Int32).toInt ≤ 8)
  exact ⟨h, by decide, by decide, by decide⟩
theorem inv_X4_begin (mo : Int32) (σ : ex_S) (hI : A_IN0 σ) : A_INV (A_begin mo σ) := by
  unfold A_begin
  show A_INV (A_next (sI 10 (0 : Int32) (sI 9 (0 : Int32) (sI 2 (0 : Int32) (sI 1 mo σ)))))
  exact inv_X4_next _ (A_IN0_b hI)
theorem inv_X9_readTown (σ : ex_S) (hI : A_INV σ) : A_INV (A_readTown σ).2 := by
  unfold A_readTown
  by_cases h : ((σ.1 11)).toInt < ((7 : Int32)).toInt
  case neg => rw [if_neg h]; exact inv_X4_failAs (4 : Int32) σ hI
  rw [if_pos h]
  obtain ⟨τ1, q1⟩ : ∃ x, x = A_next σ := ⟨_, rfl⟩
  have i1 : A_INV τ1 := by rw [q1]; exact inv_X4_next σ hI
  have f1 : A_FR σ τ1 := by rw [q1]; exact fr_X4_next σ
  rw [ex_lt_eq q1]
  obtain ⟨r2, τ2, q2⟩ : ∃ r x, A_takeNewName (τ1) = (r, x) := ex_pair _
  have i2 : A_INV τ2 := by have z := inv_X4_takeNewName  (τ1) (i1); rw [q2] at z; exact z
  have f2 : A_FR σ τ2 := by have z := A_FR_t (fr_X4_takeNewName  (τ1)) (f1); rw [q2] at z; exact z
  rw [ex_bd_eq q2]
  by_cases h2 : r2 = 0
  · rw [if_pos h2]; exact i2
  rw [if_neg h2]
  obtain ⟨r3, τ3, q3⟩ : ∃ r x, A_takeNumber (0 : Int32) (60 : Int32) (τ2) = (r, x) := ex_pair _
  have i3 : A_INV τ3 := by have z := inv_X4_takeNumber (0 : Int32) (60 : Int32) (τ2) (i2); rw [q3] at z; exact z
  have f3 : A_FR σ τ3 := by have z := A_FR_t (fr_X4_takeNumber (0 : Int32) (60 : Int32) (τ2)) (f2); rw [q3] at z; exact z
  rw [ex_bd_eq q3]
  by_cases h3 : r3 = 0
  · rw [if_pos h3]; exact i3
  rw [if_neg h3]
  have iU : A_INV (sI 11 ((τ3.1 11) + (1 : Int32)) (sR 2 (upd (τ3.2.2.1 2) ((σ.1 11)).toNatClampNeg (0 : Int32)) (sR 1 (upd (τ3.2.2.1 1) ((σ.1 11)).toNatClampNeg (τ3.1 7)) (sQ 1 (vp_updL (τ3.2.2.2 1) ((σ.1 11)).toNatClampNeg (τ3.2.1 1)) τ3)))) := A_INV_t11 h f3 i3
  by_cases h59 : (τ3.1 4) = (59 : Int32)
  · rw [if_pos h59]; exact iU
  rw [if_neg h59]
  obtain ⟨r4, τ4, q4⟩ : ∃ r x, A_takeWay (sI 11 ((τ3.1 11) + (1 : Int32)) (sR 2 (upd (τ3.2.2.1 2) ((σ.1 11)).toNatClampNeg (0 : Int32)) (sR 1 (upd (τ3.2.2.1 1) ((σ.1 11)).toNatClampNeg (τ3.1 7)) (sQ 1 (vp_updL (τ3.2.2.2 1) ((σ.1 11)).toNatClampNeg (τ3.2.1 1)) τ3)))) = (r, x) := ex_pair _
  have i4 : A_INV τ4 := by have z := inv_X4_takeWay  (sI 11 ((τ3.1 11) + (1 : Int32)) (sR 2 (upd (τ3.2.2.1 2) ((σ.1 11)).toNatClampNeg (0 : Int32)) (sR 1 (upd (τ3.2.2.1 1) ((σ.1 11)).toNatClampNeg (τ3.1 7)) (sQ 1 (vp_updL (τ3.2.2.2 1) ((σ.1 11)).toNatClampNeg (τ3.2.1 1)) τ3)))) (iU); rw [q4] at z; exact z
  rw [ex_bd_eq q4]
  by_cases h4 : r4 = 0
  · rw [if_pos h4]; exact i4
  rw [if_neg h4]
  obtain ⟨r5, τ5, q5⟩ : ∃ r x, A_takeNumber (1 : Int32) (30 : Int32) (τ4) = (r, x) := ex_pair _
  have i5 : A_INV τ5 := by have z := inv_X4_takeNumber (1 : Int32) (30 : Int32) (τ4) (i4); rw [q5] at z; exact z
  rw [ex_bd_eq q5]
  by_cases h5 : r5 = 0
  · rw [if_pos h5]; exact i5
  rw [if_neg h5]
  exact A_INV_R i5
theorem inv_X9_readTerm (σ : ex_S) (hI : A_INV σ) : A_INV (A_readTerm σ).2 := by
  unfold A_readTerm
  by_cases h : ((σ.1 12)).toInt < ((12 : Int32)).toInt
  case neg => rw [if_neg h]; exact inv_X4_failAs (4 : Int32) σ hI
  rw [if_pos h]
  obtain ⟨τ1, q1⟩ : ∃ x, x = A_next σ := ⟨_, rfl⟩
  have i1 : A_INV τ1 := by rw [q1]; exact inv_X4_next σ hI
  have f1 : A_FR σ τ1 := by rw [q1]; exact fr_X4_next σ
  rw [ex_lt_eq q1]
  obtain ⟨r2, τ2, q2⟩ : ∃ r x, A_takeTown (-1 : Int32) (τ1) = (r, x) := ex_pair _
  have i2 : A_INV τ2 := by have z := inv_X4_takeTown (-1 : Int32) (τ1) (i1); rw [q2] at z; exact z
  have f2 : A_FR σ τ2 := by have z := A_FR_t (fr_X4_takeTown (-1 : Int32) (τ1)) (f1); rw [q2] at z; exact z
  rw [ex_bd_eq q2]
  by_cases h2 : r2 = 0
  · rw [if_pos h2]; exact i2
  rw [if_neg h2]
  obtain ⟨r3, τ3, q3⟩ : ∃ r x, A_takeNumber (0 : Int32) (399 : Int32) (sR 3 (upd (τ2.2.2.1 3) ((σ.1 12)).toNatClampNeg (τ2.1 7)) τ2) = (r, x) := ex_pair _
  have i3 : A_INV τ3 := by have z := inv_X4_takeNumber (0 : Int32) (399 : Int32) (sR 3 (upd (τ2.2.2.1 3) ((σ.1 12)).toNatClampNeg (τ2.1 7)) τ2) (A_INV_R i2); rw [q3] at z; exact z
  have f3 : A_FR σ τ3 := by have z := A_FR_t (fr_X4_takeNumber (0 : Int32) (399 : Int32) (sR 3 (upd (τ2.2.2.1 3) ((σ.1 12)).toNatClampNeg (τ2.1 7)) τ2)) (A_FR_R f2); rw [q3] at z; exact z
  rw [ex_bd_eq q3]
  by_cases h3 : r3 = 0
  · rw [if_pos h3]; exact i3
  rw [if_neg h3]
  obtain ⟨r4, τ4, q4⟩ : ∃ r x, A_takeNumber ((upd (τ3.2.2.1 4) ((σ.1 12)).toNatClampNeg (τ3.1 7)) ((σ.1 12)).toNatClampNeg) (399 : Int32) (sR 4 (upd (τ3.2.2.1 4) ((σ.1 12)).toNatClampNeg (τ3.1 7)) τ3) = (r, x) := ex_pair _
  have i4 : A_INV τ4 := by have z := inv_X4_takeNumber ((upd (τ3.2.2.1 4) ((σ.1 12)).toNatClampNeg (τ3.1 7)) ((σ.1 12)).toNatClampNeg) (399 : Int32) (sR 4 (upd (τ3.2.2.1 4) ((σ.1 12)).toNatClampNeg (τ3.1 7)) τ3) (A_INV_R i3); rw [q4] at z; exact z
  have f4 : A_FR σ τ4 := by have z := A_FR_t (fr_X4_takeNumber ((upd (τ3.2.2.1 4) ((σ.1 12)).toNatClampNeg (τ3.1 7)) ((σ.1 12)).toNatClampNeg) (399 : Int32) (sR 4 (upd (τ3.2.2.1 4) ((σ.1 12)).toNatClampNeg (τ3.1 7)) τ3)) (A_FR_R f3); rw [q4] at z; exact z
  rw [ex_bd_eq q4]
  by_cases h4 : r4 = 0
  · rw [if_pos h4]; exact i4
  rw [if_neg h4]
  obtain ⟨r5, τ5, q5⟩ : ∃ r x, A_takeWay (sR 5 (upd (τ4.2.2.1 5) ((σ.1 12)).toNatClampNeg (τ4.1 7)) τ4) = (r, x) := ex_pair _
  have i5 : A_INV τ5 := by have z := inv_X4_takeWay  (sR 5 (upd (τ4.2.2.1 5) ((σ.1 12)).toNatClampNeg (τ4.1 7)) τ4) (A_INV_R i4); rw [q5] at z; exact z
  have f5 : A_FR σ τ5 := by have z := A_FR_t (fr_X4_takeWay  (sR 5 (upd (τ4.2.2.1 5) ((σ.1 12)).toNatClampNeg (τ4.1 7)) τ4)) (A_FR_R f4); rw [q5] at z; exact z
  rw [ex_bd_eq q5]
  by_cases h5 : r5 = 0
  · rw [if_pos h5]; exact i5
  rw [if_neg h5]
  obtain ⟨r6, τ6, q6⟩ : ∃ r x, A_takeNumber (0 : Int32) (30 : Int32) (τ5) = (r, x) := ex_pair _
  have i6 : A_INV τ6 := by have z := inv_X4_takeNumber (0 : Int32) (30 : Int32) (τ5) (i5); rw [q6] at z; exact z
  have f6 : A_FR σ τ6 := by have z := A_FR_t (fr_X4_takeNumber (0 : Int32) (30 : Int32) (τ5)) (f5); rw [q6] at z; exact z
  rw [ex_bd_eq q6]
  by_cases h6 : r6 = 0
  · rw [if_pos h6]; exact i6
  rw [if_neg h6]
  exact A_INV_t12 h f6 i6
theorem inv_X9_readTrain (σ : ex_S) (hI : A_INV σ) : A_INV (A_readTrain σ).2 := by
  unfold A_readTrain
  by_cases h : ((σ.1 13)).toInt < ((8 : Int32)).toInt
  case neg => rw [if_neg h]; exact inv_X4_failAs (4 : Int32) σ hI
  rw [if_pos h]
  obtain ⟨τ1, q1⟩ : ∃ x, x = A_next σ := ⟨_, rfl⟩
  have i1 : A_INV τ1 := by rw [q1]; exact inv_X4_next σ hI
  have f1 : A_FR σ τ1 := by rw [q1]; exact fr_X4_next σ
  rw [ex_lt_eq q1]
  obtain ⟨r2, τ2, q2⟩ : ∃ r x, A_takeNewName (τ1) = (r, x) := ex_pair _
  have i2 : A_INV τ2 := by have z := inv_X4_takeNewName  (τ1) (i1); rw [q2] at z; exact z
  have f2 : A_FR σ τ2 := by have z := A_FR_t (fr_X4_takeNewName  (τ1)) (f1); rw [q2] at z; exact z
  rw [ex_bd_eq q2]
  by_cases h2 : r2 = 0
  · rw [if_pos h2]; exact i2
  rw [if_neg h2]
  obtain ⟨r3, τ3, q3⟩ : ∃ r x, A_takeTown (-1 : Int32) (sQ 2 (vp_updL (τ2.2.2.2 2) ((σ.1 13)).toNatClampNeg (τ2.2.1 1)) τ2) = (r, x) := ex_pair _
  have i3 : A_INV τ3 := by have z := inv_X4_takeTown (-1 : Int32) (sQ 2 (vp_updL (τ2.2.2.2 2) ((σ.1 13)).toNatClampNeg (τ2.2.1 1)) τ2) (A_INV_Q i2); rw [q3] at z; exact z
  have f3 : A_FR σ τ3 := by have z := A_FR_t (fr_X4_takeTown (-1 : Int32) (sQ 2 (vp_updL (τ2.2.2.2 2) ((σ.1 13)).toNatClampNeg (τ2.2.1 1)) τ2)) (A_FR_Q f2); rw [q3] at z; exact z
  rw [ex_bd_eq q3]
  by_cases h3 : r3 = 0
  · rw [if_pos h3]; exact i3
  rw [if_neg h3]
  obtain ⟨r4, τ4, q4⟩ : ∃ r x, A_takeTown ((upd (τ3.2.2.1 7) ((σ.1 13)).toNatClampNeg (τ3.1 7)) ((σ.1 13)).toNatClampNeg) (sR 7 (upd (τ3.2.2.1 7) ((σ.1 13)).toNatClampNeg (τ3.1 7)) τ3) = (r, x) := ex_pair _
  have i4 : A_INV τ4 := by have z := inv_X4_takeTown ((upd (τ3.2.2.1 7) ((σ.1 13)).toNatClampNeg (τ3.1 7)) ((σ.1 13)).toNatClampNeg) (sR 7 (upd (τ3.2.2.1 7) ((σ.1 13)).toNatClampNeg (τ3.1 7)) τ3) (A_INV_R i3); rw [q4] at z; exact z
  have f4 : A_FR σ τ4 := by have z := A_FR_t (fr_X4_takeTown ((upd (τ3.2.2.1 7) ((σ.1 13)).toNatClampNeg (τ3.1 7)) ((σ.1 13)).toNatClampNeg) (sR 7 (upd (τ3.2.2.1 7) ((σ.1 13)).toNatClampNeg (τ3.1 7)) τ3)) (A_FR_R f3); rw [q4] at z; exact z
  rw [ex_bd_eq q4]
  by_cases h4 : r4 = 0
  · rw [if_pos h4]; exact i4
  rw [if_neg h4]
  obtain ⟨r5, τ5, q5⟩ : ∃ r x, A_takeNumber (0 : Int32) (600 : Int32) (sR 8 (upd (τ4.2.2.1 8) ((σ.1 13)).toNatClampNeg (τ4.1 7)) τ4) = (r, x) := ex_pair _
  have i5 : A_INV τ5 := by have z := inv_X4_takeNumber (0 : Int32) (600 : Int32) (sR 8 (upd (τ4.2.2.1 8) ((σ.1 13)).toNatClampNeg (τ4.1 7)) τ4) (A_INV_R i4); rw [q5] at z; exact z
  have f5 : A_FR σ τ5 := by have z := A_FR_t (fr_X4_takeNumber (0 : Int32) (600 : Int32) (sR 8 (upd (τ4.2.2.1 8) ((σ.1 13)).toNatClampNeg (τ4.1 7)) τ4)) (A_FR_R f4); rw [q5] at z; exact z
  rw [ex_bd_eq q5]
  by_cases h5 : r5 = 0
  · rw [if_pos h5]; exact i5
  rw [if_neg h5]
  obtain ⟨r6, τ6, q6⟩ : ∃ r x, A_takeNumber (1 : Int32) (200 : Int32) (sR 9 (upd (τ5.2.2.1 9) ((σ.1 13)).toNatClampNeg (τ5.1 7)) τ5) = (r, x) := ex_pair _
  have i6 : A_INV τ6 := by have z := inv_X4_takeNumber (1 : Int32) (200 : Int32) (sR 9 (upd (τ5.2.2.1 9) ((σ.1 13)).toNatClampNeg (τ5.1 7)) τ5) (A_INV_R i5); rw [q6] at z; exact z
  have f6 : A_FR σ τ6 := by have z := A_FR_t (fr_X4_takeNumber (1 : Int32) (200 : Int32) (sR 9 (upd (τ5.2.2.1 9) ((σ.1 13)).toNatClampNeg (τ5.1 7)) τ5)) (A_FR_R f5); rw [q6] at z; exact z
  rw [ex_bd_eq q6]
  by_cases h6 : r6 = 0
  · rw [if_pos h6]; exact i6
  rw [if_neg h6]
  exact A_INV_t13 h f6 i6
theorem inv_X9_readSetting (wh : Int32) (σ : ex_S) (hI : A_INV σ) : A_INV (A_readSetting wh σ).2 := by
  unfold A_readSetting
  simp only [ex_bd, ex_lt]
  repeat' (with_reducible split)
  all_goals (repeat' (first
    | with_reducible exact hI
    | with_reducible exact A_FR_0 _
    | with_reducible refine inv_X4_next _ ?_
    | with_reducible refine inv_X4_failAs _ _ ?_
    | with_reducible refine inv_X4_takeSign _ _ ?_
    | with_reducible refine inv_X4_takeNumber _ _ _ ?_
    | with_reducible refine inv_X4_takeWay _ ?_
    | with_reducible refine inv_X4_takeNewName _ ?_
    | with_reducible refine inv_X4_takeTown _ _ ?_
    | with_reducible refine A_INV_I ?_ (by decide)
    | with_reducible refine A_INV_L ?_
    | with_reducible refine A_INV_R ?_
    | with_reducible refine A_INV_Q ?_
    | with_reducible refine A_FR_t (fr_X4_next _) ?_
    | with_reducible refine A_FR_t (fr_X4_failAs _ _) ?_
    | with_reducible refine A_FR_t (fr_X4_takeSign _ _) ?_
    | with_reducible refine A_FR_t (fr_X4_takeNumber _ _ _) ?_
    | with_reducible refine A_FR_t (fr_X4_takeWay _) ?_
    | with_reducible refine A_FR_t (fr_X4_takeNewName _) ?_
    | with_reducible refine A_FR_t (fr_X4_takeTown _ _) ?_
    | with_reducible refine A_FR_I (by decide) ?_
    | with_reducible refine A_FR_L ?_
    | with_reducible refine A_FR_R ?_
    | with_reducible refine A_FR_Q ?_
    ))
theorem inv_X9_readLine (σ : ex_S) (hI : A_INV σ) : A_INV (A_readLine σ).2 := by
  unfold A_readLine
  simp only [ex_bd, ex_lt]
  repeat' (with_reducible split)
  all_goals (repeat' (first
    | with_reducible exact inv_X4_failAs _ _ hI
    | with_reducible exact inv_X9_readTown _ hI
    | with_reducible exact inv_X9_readTerm _ hI
    | with_reducible exact inv_X9_readTrain _ hI
    | with_reducible exact inv_X9_readSetting _ _ hI
    ))
theorem inv_A_ri : ∀ (k n : Nat) (τ : ex_S), A_INV τ → A_INV (A_ri k n τ).2 := by
  intro k
  induction k with
  | zero => intro n τ hI; exact hI
  | succ k ih =>
    intro n τ hI
    rw [A_ri_s]
    simp only [ex_bd, ex_lt]
    repeat' (with_reducible split)
    all_goals (repeat (first | with_reducible exact hI | with_reducible refine ih _ _ ?_ | with_reducible refine inv_X4_takeSign _ _ ?_ | with_reducible refine inv_X9_readLine _ ?_))
theorem inv_X9_readInto (σ : ex_S) (h : 0 ≤ (σ.1 0).toInt ∧ (σ.1 0).toInt ≤ 940) : A_INV (A_readInto σ).2 := by
  unfold A_readInto
  simp only [ex_lt]
  exact inv_A_ri _ _ _ (inv_X4_begin _ _ (inv_X8_makeEmpty σ h))
theorem ex_4 {x : Int32} (h : 0 ≤ x.toInt ∧ x.toInt + 4 ≤ 940) : (x + (1 : Int32)).toInt = x.toInt + 1 ∧ ((x + (1 : Int32)) + (1 : Int32)).toInt = x.toInt + 2 ∧ (((x + (1 : Int32)) + (1 : Int32)) + (1 : Int32)).toInt = x.toInt + 3 ∧ ((((x + (1 : Int32)) + (1 : Int32)) + (1 : Int32)) + (1 : Int32)).toInt = x.toInt + 4 := by
  have e9 : (2000 : Int32).toInt = 2000 := by decide
  have a1 := ex_inc (p := x) (n := 2000) (by omega)
  have a2 := ex_inc (p := x + (1 : Int32)) (n := 2000) (by omega)
  have a3 := ex_inc (p := (x + (1 : Int32)) + (1 : Int32)) (n := 2000) (by omega)
  have a4 := ex_inc (p := ((x + (1 : Int32)) + (1 : Int32)) + (1 : Int32)) (n := 2000) (by omega)
  omega
theorem ex_20 {x : Int32} (h : 0 ≤ x.toInt ∧ x.toInt ≤ 940) : (x + (20 : Int32)).toInt = x.toInt + 20 := by
  have e9 : (20 : Int32).toInt = 20 := by decide
  have a := ab_addI2 x (20 : Int32) (by omega) (by omega)
  omega
theorem inv_X4_put (v : Int32) (σ : ex_S) (h : 0 ≤ (σ.1 0).toInt ∧ (σ.1 0).toInt + 4 ≤ 940) : ((A_put v σ).1 0).toInt = (σ.1 0).toInt + 4 := by
  unfold A_put
  exact (ex_4 h).2.2.2
