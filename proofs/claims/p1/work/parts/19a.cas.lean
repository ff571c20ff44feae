/-! The cases of the law. -/
def ab_e1 (q : Nat × ab_S) : Bool := match q with
  | (k, ((_, _, _, cl, sl), _, _, st)) => (match st with
    | [.inl (none, c)] => ab_ie c 1 && Nat.beq k 1 && Nat.ble cl 600002 && Nat.ble sl 7302232
    | _ => false)
def ab_allE : List (Nat × ab_S) → Bool
  | [] => true
  | q :: r => ab_e1 q && ab_allE r
def ab_gd (o : Option (List (Nat × ab_S))) : Bool := match o with
  | none => false
  | some L => ab_allE L
def ab_cas (lo hi k0 k1 : Int) (pc : Nat) : Bool := ab_gd (ab_run tb_LB (ab_eval ab_MEL 6000 10) 1500 [ab_sk lo hi k0 k1 pc] [])
theorem ca_0 : ab_cas (-2147483648) 2147483647 0 0 220 = true := by decide +kernel
theorem ca_1 : ab_cas (-2147483648) 2147483647 1 1 293 = true := by decide +kernel
theorem ca_2 : ab_cas (-2147483648) 2147483647 2 2 318 = true := by decide +kernel
theorem ca_3 : ab_cas (-2147483648) 2147483647 3 3 331 = true := by decide +kernel
theorem ca_4 : ab_cas (-2147483648) 2147483647 4 4 344 = true := by decide +kernel
theorem ca_5 : ab_cas (-2147483648) 2147483647 5 5 412 = true := by decide +kernel
theorem ca_6 : ab_cas (-2147483648) 2147483647 6 6 480 = true := by decide +kernel
theorem ca_7 : ab_cas (-2147483648) 2147483647 7 7 548 = true := by decide +kernel
theorem ca_8 : ab_cas (-2147483648) 2147483647 8 8 616 = true := by decide +kernel
theorem ca_9 : ab_cas (-2147483648) 2147483647 9 9 672 = true := by decide +kernel
theorem ca_10 : ab_cas (-2147483648) 2147483647 10 10 709 = true := by decide +kernel
theorem ca_11 : ab_cas (-2147483648) 2147483647 11 11 734 = true := by decide +kernel
theorem ca_12 : ab_cas (-2147483648) 2147483647 12 12 759 = true := by decide +kernel
theorem ca_14 : ab_cas (-2147483648) 2147483647 14 14 797 = true := by decide +kernel
theorem ca_15 : ab_cas (-2147483648) 2147483647 15 15 810 = true := by decide +kernel
theorem ca_16 : ab_cas (-2147483648) 2147483647 16 16 854 = true := by decide +kernel
theorem ca_17 : ab_cas (-2147483648) 2147483647 17 17 898 = true := by decide +kernel
theorem ca_18 : ab_cas (-2147483648) 2147483647 18 18 911 = true := by decide +kernel
theorem ca_19 : ab_cas (-2147483648) 2147483647 19 19 967 = true := by decide +kernel
theorem ca_21 : ab_cas (-2147483648) 2147483647 21 21 1005 = true := by decide +kernel
theorem ca_22 : ab_cas (-2147483648) 2147483647 22 22 1073 = true := by decide +kernel
theorem ca_23 : ab_cas (-2147483648) 2147483647 23 23 1122 = true := by decide +kernel
theorem ca_24 : ab_cas (-2147483648) 2147483647 24 24 1147 = true := by decide +kernel
theorem ca_25 : ab_cas (-2147483648) 2147483647 25 25 1160 = true := by decide +kernel
theorem ca_26 : ab_cas (-2147483648) 2147483647 26 26 1228 = true := by decide +kernel
theorem ca_27 : ab_cas (-2147483648) 2147483647 27 27 1241 = true := by decide +kernel
theorem ca_28 : ab_cas (-2147483648) 2147483647 28 28 1297 = true := by decide +kernel
theorem ca_29 : ab_cas (-2147483648) 2147483647 29 29 1334 = true := by decide +kernel
theorem ca_30 : ab_cas (-2147483648) 2147483647 30 30 1359 = true := by decide +kernel
theorem ca_31 : ab_cas (-2147483648) 2147483647 31 31 1384 = true := by decide +kernel
theorem ca_32 : ab_cas (-2147483648) 2147483647 32 32 1409 = true := by decide +kernel
theorem ca_33 : ab_cas (-2147483648) 2147483647 33 33 1446 = true := by decide +kernel
theorem ca_34 : ab_cas (-2147483648) 2147483647 34 34 1495 = true := by decide +kernel
theorem ca_35 : ab_cas (-2147483648) 2147483647 35 35 1520 = true := by decide +kernel
theorem ca_36 : ab_cas (-2147483648) 2147483647 36 36 1545 = true := by decide +kernel
theorem ca_37 : ab_cas (-2147483648) 2147483647 37 37 1558 = true := by decide +kernel
theorem ca_38 : ab_cas (-2147483648) 2147483647 38 38 1583 = true := by decide +kernel
theorem ca_39 : ab_cas (-2147483648) 2147483647 39 39 1608 = true := by decide +kernel
theorem ca_40 : ab_cas (-2147483648) 2147483647 40 40 1633 = true := by decide +kernel
theorem ca_41 : ab_cas (-2147483648) 2147483647 41 63 1658 = true := by decide +kernel
