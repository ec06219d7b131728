/-! the states of the law's fixed runs, and what each call gives there: by program -/
theorem fa0_v0 : fFault F00 = 0 := by decide +kernel
theorem fa0_v1 : fCount 6 F00 = 0 := by decide +kernel
theorem fa0_z2 : fCarry F00 = (-3, F00) := fCarry_bad (x := 0) (by decide +kernel)
theorem fa0_v3 : fCount 7 F00 = 0 := by decide +kernel
def fa1_F1 : FS := (t00, [], (fun _ => none), [53])
theorem fa1_E1 : fPut 53 F00 = (1, fa1_F1) := fPut_v (n := 1) (bs := [53]) (by decide +kernel) (by decide) (by decide +kernel) (by decide +kernel) (by decide +kernel)
theorem fa1_O1 : FOk fa1_F1 := kstep2 fa1_E1 (fPut_ok F00_ok)
theorem fa1_v0 : fFault fa1_F1 = 1 := by decide +kernel
theorem fa1_v1 : fCount 6 fa1_F1 = 1 := by decide +kernel
theorem fa1_z2 : fCarry fa1_F1 = (-3, fa1_F1) := fCarry_bad (x := 1) (by decide +kernel)
theorem fa1_v3 : fCount 7 fa1_F1 = 0 := by decide +kernel
def fa2_F1 : FS := (t00, [], (fun _ => none), [50, 55, 61, 49])
theorem fa2_E1 : fPut 842480945 F00 = (4, fa2_F1) := fPut_v (n := 4) (bs := [50, 55, 61, 49]) (by decide +kernel) (by decide) (by decide +kernel) (by decide +kernel) (by decide +kernel)
theorem fa2_O1 : FOk fa2_F1 := kstep2 fa2_E1 (fPut_ok F00_ok)
theorem fa2_v0 : fFault fa2_F1 = 1 := by decide +kernel
theorem fa2_v1 : fCount 6 fa2_F1 = 4 := by decide +kernel
theorem fa2_z2 : fCarry fa2_F1 = (-3, fa2_F1) := fCarry_bad (x := 1) (by decide +kernel)
theorem fa2_v3 : fCount 7 fa2_F1 = 0 := by decide +kernel
def fa3_F1 : FS := (t00, [], (fun _ => none), [48, 53, 61, 49])
theorem fa3_E1 : fPut 808795441 F00 = (4, fa3_F1) := fPut_v (n := 4) (bs := [48, 53, 61, 49]) (by decide +kernel) (by decide) (by decide +kernel) (by decide +kernel) (by decide +kernel)
theorem fa3_O1 : FOk fa3_F1 := kstep2 fa3_E1 (fPut_ok F00_ok)
theorem fa3_v0 : fFault fa3_F1 = 1 := by decide +kernel
theorem fa3_v1 : fCount 6 fa3_F1 = 4 := by decide +kernel
theorem fa3_z2 : fCarry fa3_F1 = (-3, fa3_F1) := fCarry_bad (x := 1) (by decide +kernel)
theorem fa3_v3 : fCount 7 fa3_F1 = 0 := by decide +kernel
def fa4_F1 : FS := (t00, [], (fun _ => none), [53, 61, 49, 48, 48, 48])
theorem fa4_E1 : fPut 58536934518832 F00 = (6, fa4_F1) := fPut_v (n := 6) (bs := [53, 61, 49, 48, 48, 48]) (by decide +kernel) (by decide) (by decide +kernel) (by decide +kernel) (by decide +kernel)
theorem fa4_O1 : FOk fa4_F1 := kstep2 fa4_E1 (fPut_ok F00_ok)
theorem fa4_v0 : fFault fa4_F1 = 5 := by decide +kernel
theorem fa4_v1 : fCount 6 fa4_F1 = 6 := by decide +kernel
theorem fa4_z2 : fCarry fa4_F1 = (-3, fa4_F1) := fCarry_bad (x := 5) (by decide +kernel)
theorem fa4_v3 : fCount 7 fa4_F1 = 0 := by decide +kernel
def fa5_F1 : FS := (t00, [], (fun _ => none), [53, 61, 48, 49])
theorem fa5_E1 : fPut 893202481 F00 = (4, fa5_F1) := fPut_v (n := 4) (bs := [53, 61, 48, 49]) (by decide +kernel) (by decide) (by decide +kernel) (by decide +kernel) (by decide +kernel)
theorem fa5_O1 : FOk fa5_F1 := kstep2 fa5_E1 (fPut_ok F00_ok)
theorem fa5_v0 : fFault fa5_F1 = 3 := by decide +kernel
theorem fa5_v1 : fCount 6 fa5_F1 = 4 := by decide +kernel
theorem fa5_z2 : fCarry fa5_F1 = (-3, fa5_F1) := fCarry_bad (x := 3) (by decide +kernel)
theorem fa5_v3 : fCount 7 fa5_F1 = 0 := by decide +kernel
def fa6_F1 : FS := (t00, [], (fun _ => none), [53, 45, 51, 43, 49])
theorem fa6_E1 : fPut 228391594801 F00 = (5, fa6_F1) := fPut_v (n := 5) (bs := [53, 45, 51, 43, 49]) (by decide +kernel) (by decide) (by decide +kernel) (by decide +kernel) (by decide +kernel)
theorem fa6_O1 : FOk fa6_F1 := kstep2 fa6_E1 (fPut_ok F00_ok)
theorem fa6_v0 : fFault fa6_F1 = 3 := by decide +kernel
theorem fa6_v1 : fCount 6 fa6_F1 = 5 := by decide +kernel
theorem fa6_z2 : fCarry fa6_F1 = (-3, fa6_F1) := fCarry_bad (x := 3) (by decide +kernel)
theorem fa6_v3 : fCount 7 fa6_F1 = 0 := by decide +kernel
def fa7_F1 : FS := (t00, [], (fun _ => none), [53, 45, 51])
theorem fa7_E1 : fPut 3484979 F00 = (3, fa7_F1) := fPut_v (n := 3) (bs := [53, 45, 51]) (by decide +kernel) (by decide) (by decide +kernel) (by decide +kernel) (by decide +kernel)
theorem fa7_O1 : FOk fa7_F1 := kstep2 fa7_E1 (fPut_ok F00_ok)
theorem fa7_v0 : fFault fa7_F1 = 3 := by decide +kernel
theorem fa7_v1 : fCount 6 fa7_F1 = 3 := by decide +kernel
theorem fa7_z2 : fCarry fa7_F1 = (-3, fa7_F1) := fCarry_bad (x := 3) (by decide +kernel)
theorem fa7_v3 : fCount 7 fa7_F1 = 0 := by decide +kernel
def fa8_F1 : FS := (t00, [], (fun _ => none), [49, 50, 45, 49, 43, 49])
theorem fa8_E1 : fPut 54091576322865 F00 = (6, fa8_F1) := fPut_v (n := 6) (bs := [49, 50, 45, 49, 43, 49]) (by decide +kernel) (by decide) (by decide +kernel) (by decide +kernel) (by decide +kernel)
theorem fa8_O1 : FOk fa8_F1 := kstep2 fa8_E1 (fPut_ok F00_ok)
theorem fa8_v0 : fFault fa8_F1 = 4 := by decide +kernel
theorem fa8_v1 : fCount 6 fa8_F1 = 6 := by decide +kernel
theorem fa8_z2 : fCarry fa8_F1 = (-3, fa8_F1) := fCarry_bad (x := 4) (by decide +kernel)
theorem fa8_v3 : fCount 7 fa8_F1 = 0 := by decide +kernel
def fa9_F1 : FS := (t00, [], (fun _ => none), [49, 50, 45, 49])
theorem fa9_E1 : fPut 825371953 F00 = (4, fa9_F1) := fPut_v (n := 4) (bs := [49, 50, 45, 49]) (by decide +kernel) (by decide) (by decide +kernel) (by decide +kernel) (by decide +kernel)
theorem fa9_O1 : FOk fa9_F1 := kstep2 fa9_E1 (fPut_ok F00_ok)
theorem fa9_v0 : fFault fa9_F1 = 4 := by decide +kernel
theorem fa9_v1 : fCount 6 fa9_F1 = 4 := by decide +kernel
theorem fa9_z2 : fCarry fa9_F1 = (-3, fa9_F1) := fCarry_bad (x := 4) (by decide +kernel)
theorem fa9_v3 : fCount 7 fa9_F1 = 0 := by decide +kernel
def fa10_F1 : FS := (t00, [], (fun _ => none), [49, 50, 45, 49, 48, 43, 49])
theorem fa10_E1 : fPut 13847443538979633 F00 = (7, fa10_F1) := fPut_v (n := 7) (bs := [49, 50, 45, 49, 48, 43, 49]) (by decide +kernel) (by decide) (by decide +kernel) (by decide +kernel) (by decide +kernel)
theorem fa10_O1 : FOk fa10_F1 := kstep2 fa10_E1 (fPut_ok F00_ok)
theorem fa10_v0 : fFault fa10_F1 = 5 := by decide +kernel
theorem fa10_v1 : fCount 6 fa10_F1 = 7 := by decide +kernel
theorem fa10_z2 : fCarry fa10_F1 = (-3, fa10_F1) := fCarry_bad (x := 5) (by decide +kernel)
theorem fa10_v3 : fCount 7 fa10_F1 = 0 := by decide +kernel
def fa11_F1 : FS := (t00, [], (fun _ => none), [49, 50, 45, 49, 50, 43, 49])
theorem fa11_E1 : fPut 13847443539110705 F00 = (7, fa11_F1) := fPut_v (n := 7) (bs := [49, 50, 45, 49, 50, 43, 49]) (by decide +kernel) (by decide) (by decide +kernel) (by decide +kernel) (by decide +kernel)
theorem fa11_O1 : FOk fa11_F1 := kstep2 fa11_E1 (fPut_ok F00_ok)
theorem fa11_v0 : fFault fa11_F1 = (-6) := by decide +kernel
theorem fa11_v1 : fCount 6 fa11_F1 = 7 := by decide +kernel
def fa11_T1 : TS := (4, 1, 1, 0, mkW [([(1, 12, 12, 1)], 0, 0, 0), ([], 0, 0, 0), ([], 0, 0, 0), ([], 0, 0, 0), ([], 0, 0, 0), ([], 0, 0, 0), ([], 0, 0, 0), ([], 0, 0, 0), ([], 0, 0, 0), ([], 0, 0, 0), ([], 0, 0, 0), ([], 0, 0, 0), ([], 0, 0, 0)] [none, none, none, none, none, none, none, none, none, none, none, none, none, none, none, none, none, none, none, none, none, none, none, none, none, none, none] 0)
def fa11_F2 : FS := (fa11_T1, [t00], (fun _ => none), [])
theorem fa11_E2 : fCarry fa11_F1 = (1, dropA [(1, 12, 12, 1)] t00, ([t00], (fun _ => none), [])) := fCarry_v (os := [(1, 12, 12, 1)]) (F := fa11_F1) (by decide +kernel) (by decide +kernel)
theorem fa11_B2 : teqB (dropA [(1, 12, 12, 1)] t00) fa11_T1 = true := by decide +kernel
theorem fa11_O2 : FOk fa11_F2 := kstep fa11_E2 (fCarry_ok fa11_O1) fa11_B2
theorem fa11_R2 {μ : Mem} (h : RepF μ (dropA [(1, 12, 12, 1)] t00, ([t00], (fun _ => none), []))) : RepF μ fa11_F2 := RepF_teq h fa11_B2
theorem fa11_v2 : fCount 6 fa11_F2 = 0 := by decide +kernel
theorem fa11_v3 : fCount 7 fa11_F2 = 1 := by decide +kernel
theorem fa11_v4 : fFault fa11_F2 = 0 := by decide +kernel
def fa12_F1 : FS := (t00, [], (fun _ => none), [50, 54, 120])
theorem fa12_E1 : fPut 3290744 F00 = (3, fa12_F1) := fPut_v (n := 3) (bs := [50, 54, 120]) (by decide +kernel) (by decide) (by decide +kernel) (by decide +kernel) (by decide +kernel)
theorem fa12_O1 : FOk fa12_F1 := kstep2 fa12_E1 (fPut_ok F00_ok)
theorem fa12_v0 : fFault fa12_F1 = (-6) := by decide +kernel
theorem fa12_v1 : fCount 6 fa12_F1 = 3 := by decide +kernel
def fa12_T1 : TS := (4, 1, 1, 0, mkW [([(2, 26, 26, 0)], 0, 0, 0), ([], 0, 0, 0), ([], 0, 0, 0), ([], 0, 0, 0), ([], 0, 0, 0), ([], 0, 0, 0), ([], 0, 0, 0), ([], 0, 0, 0), ([], 0, 0, 0), ([], 0, 0, 0), ([], 0, 0, 0), ([], 0, 0, 0), ([], 0, 0, 0)] [none, none, none, none, none, none, none, none, none, none, none, none, none, none, none, none, none, none, none, none, none, none, none, none, none, none, none] 0)
def fa12_F2 : FS := (fa12_T1, [t00], (fun _ => none), [])
theorem fa12_E2 : fCarry fa12_F1 = (1, dropA [(2, 26, 26, 0)] t00, ([t00], (fun _ => none), [])) := fCarry_v (os := [(2, 26, 26, 0)]) (F := fa12_F1) (by decide +kernel) (by decide +kernel)
theorem fa12_B2 : teqB (dropA [(2, 26, 26, 0)] t00) fa12_T1 = true := by decide +kernel
theorem fa12_O2 : FOk fa12_F2 := kstep fa12_E2 (fCarry_ok fa12_O1) fa12_B2
theorem fa12_R2 {μ : Mem} (h : RepF μ (dropA [(2, 26, 26, 0)] t00, ([t00], (fun _ => none), []))) : RepF μ fa12_F2 := RepF_teq h fa12_B2
theorem fa12_v2 : fCount 6 fa12_F2 = 0 := by decide +kernel
theorem fa12_v3 : fCount 7 fa12_F2 = 1 := by decide +kernel
theorem fa12_v4 : fFault fa12_F2 = 0 := by decide +kernel
def fa13_F1 : FS := (t00, [], (fun _ => none), [53, 121])
theorem fa13_E1 : fPut 13689 F00 = (2, fa13_F1) := fPut_v (n := 2) (bs := [53, 121]) (by decide +kernel) (by decide) (by decide +kernel) (by decide +kernel) (by decide +kernel)
theorem fa13_O1 : FOk fa13_F1 := kstep2 fa13_E1 (fPut_ok F00_ok)
theorem fa13_v0 : fFault fa13_F1 = 1 := by decide +kernel
theorem fa13_v1 : fCount 6 fa13_F1 = 2 := by decide +kernel
theorem fa13_z2 : fCarry fa13_F1 = (-3, fa13_F1) := fCarry_bad (x := 1) (by decide +kernel)
theorem fa13_v3 : fCount 7 fa13_F1 = 0 := by decide +kernel
def fa14_F1 : FS := (t00, [], (fun _ => none), [53, 61, 49, 59])
theorem fa14_E1 : fPut 893202747 F00 = (4, fa14_F1) := fPut_v (n := 4) (bs := [53, 61, 49, 59]) (by decide +kernel) (by decide) (by decide +kernel) (by decide +kernel) (by decide +kernel)
theorem fa14_O1 : FOk fa14_F1 := kstep2 fa14_E1 (fPut_ok F00_ok)
theorem fa14_v0 : fFault fa14_F1 = 4 := by decide +kernel
theorem fa14_v1 : fCount 6 fa14_F1 = 4 := by decide +kernel
theorem fa14_z2 : fCarry fa14_F1 = (-3, fa14_F1) := fCarry_bad (x := 4) (by decide +kernel)
theorem fa14_v3 : fCount 7 fa14_F1 = 0 := by decide +kernel
def fa15_F1 : FS := (t00, [], (fun _ => none), [53, 61, 49, 59, 59])
theorem fa15_E1 : fPut 228659903291 F00 = (5, fa15_F1) := fPut_v (n := 5) (bs := [53, 61, 49, 59, 59]) (by decide +kernel) (by decide) (by decide +kernel) (by decide +kernel) (by decide +kernel)
theorem fa15_O1 : FOk fa15_F1 := kstep2 fa15_E1 (fPut_ok F00_ok)
theorem fa15_v0 : fFault fa15_F1 = 4 := by decide +kernel
theorem fa15_v1 : fCount 6 fa15_F1 = 5 := by decide +kernel
theorem fa15_z2 : fCarry fa15_F1 = (-3, fa15_F1) := fCarry_bad (x := 4) (by decide +kernel)
theorem fa15_v3 : fCount 7 fa15_F1 = 0 := by decide +kernel
def fa16_F1 : FS := (t00, [], (fun _ => none), [53, 45])
theorem fa16_E1 : fPut 13613 F00 = (2, fa16_F1) := fPut_v (n := 2) (bs := [53, 45]) (by decide +kernel) (by decide) (by decide +kernel) (by decide +kernel) (by decide +kernel)
theorem fa16_O1 : FOk fa16_F1 := kstep2 fa16_E1 (fPut_ok F00_ok)
theorem fa16_v0 : fFault fa16_F1 = 2 := by decide +kernel
theorem fa16_v1 : fCount 6 fa16_F1 = 2 := by decide +kernel
theorem fa16_z2 : fCarry fa16_F1 = (-3, fa16_F1) := fCarry_bad (x := 2) (by decide +kernel)
theorem fa16_v3 : fCount 7 fa16_F1 = 0 := by decide +kernel
def fa17_F1 : FS := (t00, [], (fun _ => none), [53, 120, 49])
theorem fa17_E1 : fPut 3504177 F00 = (3, fa17_F1) := fPut_v (n := 3) (bs := [53, 120, 49]) (by decide +kernel) (by decide) (by decide +kernel) (by decide +kernel) (by decide +kernel)
theorem fa17_O1 : FOk fa17_F1 := kstep2 fa17_E1 (fPut_ok F00_ok)
theorem fa17_v0 : fFault fa17_F1 = 2 := by decide +kernel
theorem fa17_v1 : fCount 6 fa17_F1 = 3 := by decide +kernel
theorem fa17_z2 : fCarry fa17_F1 = (-3, fa17_F1) := fCarry_bad (x := 2) (by decide +kernel)
theorem fa17_v3 : fCount 7 fa17_F1 = 0 := by decide +kernel
def fa18_F1 : FS := (t00, [], (fun _ => none), [53, 45, 50, 55, 43, 49])
theorem fa18_E1 : fPut 58468232276785 F00 = (6, fa18_F1) := fPut_v (n := 6) (bs := [53, 45, 50, 55, 43, 49]) (by decide +kernel) (by decide) (by decide +kernel) (by decide +kernel) (by decide +kernel)
theorem fa18_O1 : FOk fa18_F1 := kstep2 fa18_E1 (fPut_ok F00_ok)
theorem fa18_v0 : fFault fa18_F1 = 3 := by decide +kernel
theorem fa18_v1 : fCount 6 fa18_F1 = 6 := by decide +kernel
theorem fa18_z2 : fCarry fa18_F1 = (-3, fa18_F1) := fCarry_bad (x := 3) (by decide +kernel)
theorem fa18_v3 : fCount 7 fa18_F1 = 0 := by decide +kernel
def fa19_F1 : FS := (t00, [], (fun _ => none), [53, 43, 49, 120])
theorem fa19_E1 : fPut 892023160 F00 = (4, fa19_F1) := fPut_v (n := 4) (bs := [53, 43, 49, 120]) (by decide +kernel) (by decide) (by decide +kernel) (by decide +kernel) (by decide +kernel)
theorem fa19_O1 : FOk fa19_F1 := kstep2 fa19_E1 (fPut_ok F00_ok)
theorem fa19_v0 : fFault fa19_F1 = 3 := by decide +kernel
theorem fa19_v1 : fCount 6 fa19_F1 = 4 := by decide +kernel
theorem fa19_z2 : fCarry fa19_F1 = (-3, fa19_F1) := fCarry_bad (x := 3) (by decide +kernel)
theorem fa19_v3 : fCount 7 fa19_F1 = 0 := by decide +kernel
def fa20_F1 : FS := (t00, [], (fun _ => none), [53, 45, 55, 61, 49])
theorem fa20_E1 : fPut 228391861553 F00 = (5, fa20_F1) := fPut_v (n := 5) (bs := [53, 45, 55, 61, 49]) (by decide +kernel) (by decide) (by decide +kernel) (by decide +kernel) (by decide +kernel)
theorem fa20_O1 : FOk fa20_F1 := kstep2 fa20_E1 (fPut_ok F00_ok)
theorem fa20_v0 : fFault fa20_F1 = 3 := by decide +kernel
theorem fa20_v1 : fCount 6 fa20_F1 = 5 := by decide +kernel
theorem fa20_z2 : fCarry fa20_F1 = (-3, fa20_F1) := fCarry_bad (x := 3) (by decide +kernel)
theorem fa20_v3 : fCount 7 fa20_F1 = 0 := by decide +kernel
def fa21_F1 : FS := (t00, [], (fun _ => none), [48, 61, 48])
theorem fa21_E1 : fPut 3161392 F00 = (3, fa21_F1) := fPut_v (n := 3) (bs := [48, 61, 48]) (by decide +kernel) (by decide) (by decide +kernel) (by decide +kernel) (by decide +kernel)
theorem fa21_O1 : FOk fa21_F1 := kstep2 fa21_E1 (fPut_ok F00_ok)
theorem fa21_v0 : fFault fa21_F1 = (-6) := by decide +kernel
theorem fa21_v1 : fCount 6 fa21_F1 = 3 := by decide +kernel
def fa21_T1 : TS := (4, 1, 1, 0, mkW [([(0, 0, 0, 0)], 0, 0, 0), ([], 0, 0, 0), ([], 0, 0, 0), ([], 0, 0, 0), ([], 0, 0, 0), ([], 0, 0, 0), ([], 0, 0, 0), ([], 0, 0, 0), ([], 0, 0, 0), ([], 0, 0, 0), ([], 0, 0, 0), ([], 0, 0, 0), ([], 0, 0, 0)] [none, none, none, none, none, none, none, none, none, none, none, none, none, none, none, none, none, none, none, none, none, none, none, none, none, none, none] 0)
def fa21_F2 : FS := (fa21_T1, [t00], (fun _ => none), [])
theorem fa21_E2 : fCarry fa21_F1 = (1, dropA [(0, 0, 0, 0)] t00, ([t00], (fun _ => none), [])) := fCarry_v (os := [(0, 0, 0, 0)]) (F := fa21_F1) (by decide +kernel) (by decide +kernel)
theorem fa21_B2 : teqB (dropA [(0, 0, 0, 0)] t00) fa21_T1 = true := by decide +kernel
theorem fa21_O2 : FOk fa21_F2 := kstep fa21_E2 (fCarry_ok fa21_O1) fa21_B2
theorem fa21_R2 {μ : Mem} (h : RepF μ (dropA [(0, 0, 0, 0)] t00, ([t00], (fun _ => none), []))) : RepF μ fa21_F2 := RepF_teq h fa21_B2
theorem fa21_v2 : fCount 6 fa21_F2 = 0 := by decide +kernel
theorem fa21_v3 : fCount 7 fa21_F2 = 1 := by decide +kernel
theorem fa21_v4 : fFault fa21_F2 = 0 := by decide +kernel
def fa22_F1 : FS := (t00, [], (fun _ => none), [53, 61, 49, 59, 55, 120, 59])
theorem fa22_E1 : fPut 14985455421847611 F00 = (7, fa22_F1) := fPut_v (n := 7) (bs := [53, 61, 49, 59, 55, 120, 59]) (by decide +kernel) (by decide) (by decide +kernel) (by decide +kernel) (by decide +kernel)
theorem fa22_O1 : FOk fa22_F1 := kstep2 fa22_E1 (fPut_ok F00_ok)
theorem fa22_v0 : fFault fa22_F1 = 7 := by decide +kernel
theorem fa22_v1 : fCount 6 fa22_F1 = 7 := by decide +kernel
theorem fa22_z2 : fCarry fa22_F1 = (-3, fa22_F1) := fCarry_bad (x := 7) (by decide +kernel)
theorem fa22_v3 : fCount 7 fa22_F1 = 0 := by decide +kernel
def fa23_F1 : FS := (t00, [], (fun _ => none), [120])
theorem fa23_E1 : fPut 120 F00 = (1, fa23_F1) := fPut_v (n := 1) (bs := [120]) (by decide +kernel) (by decide) (by decide +kernel) (by decide +kernel) (by decide +kernel)
theorem fa23_O1 : FOk fa23_F1 := kstep2 fa23_E1 (fPut_ok F00_ok)
theorem fa23_v0 : fFault fa23_F1 = 0 := by decide +kernel
theorem fa23_v1 : fCount 6 fa23_F1 = 1 := by decide +kernel
theorem fa23_z2 : fCarry fa23_F1 = (-3, fa23_F1) := fCarry_bad (x := 0) (by decide +kernel)
theorem fa23_v3 : fCount 7 fa23_F1 = 0 := by decide +kernel
def fa24_F1 : FS := (t00, [], (fun _ => none), [53, 61])
theorem fa24_E1 : fPut 13629 F00 = (2, fa24_F1) := fPut_v (n := 2) (bs := [53, 61]) (by decide +kernel) (by decide) (by decide +kernel) (by decide +kernel) (by decide +kernel)
theorem fa24_O1 : FOk fa24_F1 := kstep2 fa24_E1 (fPut_ok F00_ok)
theorem fa24_v0 : fFault fa24_F1 = 2 := by decide +kernel
theorem fa24_v1 : fCount 6 fa24_F1 = 2 := by decide +kernel
theorem fa24_z2 : fCarry fa24_F1 = (-3, fa24_F1) := fCarry_bad (x := 2) (by decide +kernel)
theorem fa24_v3 : fCount 7 fa24_F1 = 0 := by decide +kernel
def fa25_F1 : FS := (t00, [], (fun _ => none), [53, 43])
theorem fa25_E1 : fPut 13611 F00 = (2, fa25_F1) := fPut_v (n := 2) (bs := [53, 43]) (by decide +kernel) (by decide) (by decide +kernel) (by decide +kernel) (by decide +kernel)
theorem fa25_O1 : FOk fa25_F1 := kstep2 fa25_E1 (fPut_ok F00_ok)
theorem fa25_v0 : fFault fa25_F1 = 2 := by decide +kernel
theorem fa25_v1 : fCount 6 fa25_F1 = 2 := by decide +kernel
theorem fa25_z2 : fCarry fa25_F1 = (-3, fa25_F1) := fCarry_bad (x := 2) (by decide +kernel)
theorem fa25_v3 : fCount 7 fa25_F1 = 0 := by decide +kernel
def fa26_F1 : FS := (t00, [], (fun _ => none), [45, 51, 43, 49])
theorem fa26_E1 : fPut 758328113 F00 = (4, fa26_F1) := fPut_v (n := 4) (bs := [45, 51, 43, 49]) (by decide +kernel) (by decide) (by decide +kernel) (by decide +kernel) (by decide +kernel)
theorem fa26_O1 : FOk fa26_F1 := kstep2 fa26_E1 (fPut_ok F00_ok)
theorem fa26_v0 : fFault fa26_F1 = 0 := by decide +kernel
theorem fa26_v1 : fCount 6 fa26_F1 = 4 := by decide +kernel
theorem fa26_z2 : fCarry fa26_F1 = (-3, fa26_F1) := fCarry_bad (x := 0) (by decide +kernel)
theorem fa26_v3 : fCount 7 fa26_F1 = 0 := by decide +kernel
def tx_F1 : FS := (t00, [], (fun _ => none), [53, 61, 49, 48, 48, 59, 53, 43])
theorem tx_E1 : fPut 3836276540626908459 F00 = (8, tx_F1) := fPut_v (n := 8) (bs := [53, 61, 49, 48, 48, 59, 53, 43]) (by decide +kernel) (by decide) (by decide +kernel) (by decide +kernel) (by decide +kernel)
theorem tx_O1 : FOk tx_F1 := kstep2 tx_E1 (fPut_ok F00_ok)
def tx_F2 : FS := (t00, [], (fun _ => none), [53, 61, 49, 48, 48, 59, 53, 43, 50, 48, 59, 48, 45, 50, 54, 43])
theorem tx_E2 : fPut 3616455578881242667 tx_F1 = (16, tx_F2) := fPut_v (n := 8) (bs := [50, 48, 59, 48, 45, 50, 54, 43]) (by decide +kernel) (by decide) (by decide +kernel) (by decide +kernel) (by decide +kernel)
theorem tx_O2 : FOk tx_F2 := kstep2 tx_E2 (fPut_ok tx_O1)
def tx_F3 : FS := (t00, [], (fun _ => none), [53, 61, 49, 48, 48, 59, 53, 43, 50, 48, 59, 48, 45, 50, 54, 43, 49])
theorem tx_E3 : fPut 49 tx_F2 = (17, tx_F3) := fPut_v (n := 1) (bs := [49]) (by decide +kernel) (by decide) (by decide +kernel) (by decide +kernel) (by decide +kernel)
theorem tx_O3 : FOk tx_F3 := kstep2 tx_E3 (fPut_ok tx_O2)
theorem tx_v0 : fFault tx_F3 = (-6) := by decide +kernel
def tx_T1 : TS := (4, 1, 3, 0, mkW [([(0, 5, 5, 120), (1, 0, 26, 1)], 0, 0, 1), ([], 0, 0, 0), ([], 0, 0, 0), ([], 0, 0, 0), ([], 0, 0, 0), ([], 0, 0, 0), ([], 0, 0, 0), ([], 0, 0, 0), ([], 0, 0, 0), ([], 0, 0, 0), ([], 0, 0, 0), ([], 0, 0, 0), ([], 0, 0, 0)] [none, none, none, none, none, none, none, none, none, none, none, none, none, none, none, none, none, none, none, none, none, none, none, none, none, none, none] 0)
def tx_F4 : FS := (tx_T1, [t00], (fun _ => none), [])
theorem tx_E4 : fCarry tx_F3 = (3, dropA [(0, 5, 5, 100), (1, 5, 5, 20), (1, 0, 26, 1)] t00, ([t00], (fun _ => none), [])) := fCarry_v (os := [(0, 5, 5, 100), (1, 5, 5, 20), (1, 0, 26, 1)]) (F := tx_F3) (by decide +kernel) (by decide +kernel)
theorem tx_B4 : teqB (dropA [(0, 5, 5, 100), (1, 5, 5, 20), (1, 0, 26, 1)] t00) tx_T1 = true := by decide +kernel
theorem tx_O4 : FOk tx_F4 := kstep tx_E4 (fCarry_ok tx_O3) tx_B4
theorem tx_R4 {μ : Mem} (h : RepF μ (dropA [(0, 5, 5, 100), (1, 5, 5, 20), (1, 0, 26, 1)] t00, ([t00], (fun _ => none), []))) : RepF μ tx_F4 := RepF_teq h tx_B4
theorem tx_v1 : fCount 0 tx_F4 = 2 := by decide +kernel
theorem tx_v2 : fCount 1 tx_F4 = 3 := by decide +kernel
theorem tx_v3 : fStone 0 0 3 tx_F4 = 120 := by decide +kernel
theorem tx_v4 : fStone 0 1 0 tx_F4 = 1 := by decide +kernel
theorem tx_v5 : fStone 0 1 2 tx_F4 = 26 := by decide +kernel
theorem tx_v6 : fKey 5 1 tx_F4 = 121 := by decide +kernel
theorem tx_v7 : fCount 7 tx_F4 = 1 := by decide +kernel
def tx_F5 : FS := (tx_T1, [t00], (fun _ => none), [55])
theorem tx_E5 : fPut 55 tx_F4 = (1, tx_F5) := fPut_v (n := 1) (bs := [55]) (by decide +kernel) (by decide) (by decide +kernel) (by decide +kernel) (by decide +kernel)
theorem tx_O5 : FOk tx_F5 := kstep2 tx_E5 (fPut_ok tx_O4)
def tx_F6 : FS := (tx_T1, [t00], (fun _ => none), [55, 55])
theorem tx_E6 : fPut 55 tx_F5 = (2, tx_F6) := fPut_v (n := 1) (bs := [55]) (by decide +kernel) (by decide) (by decide +kernel) (by decide +kernel) (by decide +kernel)
theorem tx_O6 : FOk tx_F6 := kstep2 tx_E6 (fPut_ok tx_O5)
def tx_F7 : FS := (tx_T1, [t00], (fun _ => none), [55, 55, 55])
theorem tx_E7 : fPut 55 tx_F6 = (3, tx_F7) := fPut_v (n := 1) (bs := [55]) (by decide +kernel) (by decide) (by decide +kernel) (by decide +kernel) (by decide +kernel)
theorem tx_O7 : FOk tx_F7 := kstep2 tx_E7 (fPut_ok tx_O6)
def tx_F8 : FS := (tx_T1, [t00], (fun _ => none), [55, 55, 55, 55])
theorem tx_E8 : fPut 55 tx_F7 = (4, tx_F8) := fPut_v (n := 1) (bs := [55]) (by decide +kernel) (by decide) (by decide +kernel) (by decide +kernel) (by decide +kernel)
theorem tx_O8 : FOk tx_F8 := kstep2 tx_E8 (fPut_ok tx_O7)
def tx_F9 : FS := (tx_T1, [t00], (fun _ => none), [55, 55, 55, 55, 55])
theorem tx_E9 : fPut 55 tx_F8 = (5, tx_F9) := fPut_v (n := 1) (bs := [55]) (by decide +kernel) (by decide) (by decide +kernel) (by decide +kernel) (by decide +kernel)
theorem tx_O9 : FOk tx_F9 := kstep2 tx_E9 (fPut_ok tx_O8)
def tx_F10 : FS := (tx_T1, [t00], (fun _ => none), [55, 55, 55, 55, 55, 55])
theorem tx_E10 : fPut 55 tx_F9 = (6, tx_F10) := fPut_v (n := 1) (bs := [55]) (by decide +kernel) (by decide) (by decide +kernel) (by decide +kernel) (by decide +kernel)
theorem tx_O10 : FOk tx_F10 := kstep2 tx_E10 (fPut_ok tx_O9)
def tx_F11 : FS := (tx_T1, [t00], (fun _ => none), [55, 55, 55, 55, 55, 55, 55])
theorem tx_E11 : fPut 55 tx_F10 = (7, tx_F11) := fPut_v (n := 1) (bs := [55]) (by decide +kernel) (by decide) (by decide +kernel) (by decide +kernel) (by decide +kernel)
theorem tx_O11 : FOk tx_F11 := kstep2 tx_E11 (fPut_ok tx_O10)
def tx_F12 : FS := (tx_T1, [t00], (fun _ => none), [55, 55, 55, 55, 55, 55, 55, 55])
theorem tx_E12 : fPut 55 tx_F11 = (8, tx_F12) := fPut_v (n := 1) (bs := [55]) (by decide +kernel) (by decide) (by decide +kernel) (by decide +kernel) (by decide +kernel)
theorem tx_O12 : FOk tx_F12 := kstep2 tx_E12 (fPut_ok tx_O11)
def tx_F13 : FS := (tx_T1, [t00], (fun _ => none), [55, 55, 55, 55, 55, 55, 55, 55, 55])
theorem tx_E13 : fPut 55 tx_F12 = (9, tx_F13) := fPut_v (n := 1) (bs := [55]) (by decide +kernel) (by decide) (by decide +kernel) (by decide +kernel) (by decide +kernel)
theorem tx_O13 : FOk tx_F13 := kstep2 tx_E13 (fPut_ok tx_O12)
def tx_F14 : FS := (tx_T1, [t00], (fun _ => none), [55, 55, 55, 55, 55, 55, 55, 55, 55, 55])
theorem tx_E14 : fPut 55 tx_F13 = (10, tx_F14) := fPut_v (n := 1) (bs := [55]) (by decide +kernel) (by decide) (by decide +kernel) (by decide +kernel) (by decide +kernel)
theorem tx_O14 : FOk tx_F14 := kstep2 tx_E14 (fPut_ok tx_O13)
def tx_F15 : FS := (tx_T1, [t00], (fun _ => none), [55, 55, 55, 55, 55, 55, 55, 55, 55, 55, 55])
theorem tx_E15 : fPut 55 tx_F14 = (11, tx_F15) := fPut_v (n := 1) (bs := [55]) (by decide +kernel) (by decide) (by decide +kernel) (by decide +kernel) (by decide +kernel)
theorem tx_O15 : FOk tx_F15 := kstep2 tx_E15 (fPut_ok tx_O14)
def tx_F16 : FS := (tx_T1, [t00], (fun _ => none), [55, 55, 55, 55, 55, 55, 55, 55, 55, 55, 55, 55])
theorem tx_E16 : fPut 55 tx_F15 = (12, tx_F16) := fPut_v (n := 1) (bs := [55]) (by decide +kernel) (by decide) (by decide +kernel) (by decide +kernel) (by decide +kernel)
theorem tx_O16 : FOk tx_F16 := kstep2 tx_E16 (fPut_ok tx_O15)
def tx_F17 : FS := (tx_T1, [t00], (fun _ => none), [55, 55, 55, 55, 55, 55, 55, 55, 55, 55, 55, 55, 55])
theorem tx_E17 : fPut 55 tx_F16 = (13, tx_F17) := fPut_v (n := 1) (bs := [55]) (by decide +kernel) (by decide) (by decide +kernel) (by decide +kernel) (by decide +kernel)
theorem tx_O17 : FOk tx_F17 := kstep2 tx_E17 (fPut_ok tx_O16)
def tx_F18 : FS := (tx_T1, [t00], (fun _ => none), [55, 55, 55, 55, 55, 55, 55, 55, 55, 55, 55, 55, 55, 55])
theorem tx_E18 : fPut 55 tx_F17 = (14, tx_F18) := fPut_v (n := 1) (bs := [55]) (by decide +kernel) (by decide) (by decide +kernel) (by decide +kernel) (by decide +kernel)
theorem tx_O18 : FOk tx_F18 := kstep2 tx_E18 (fPut_ok tx_O17)
def tx_F19 : FS := (tx_T1, [t00], (fun _ => none), [55, 55, 55, 55, 55, 55, 55, 55, 55, 55, 55, 55, 55, 55, 55])
theorem tx_E19 : fPut 55 tx_F18 = (15, tx_F19) := fPut_v (n := 1) (bs := [55]) (by decide +kernel) (by decide) (by decide +kernel) (by decide +kernel) (by decide +kernel)
theorem tx_O19 : FOk tx_F19 := kstep2 tx_E19 (fPut_ok tx_O18)
def tx_F20 : FS := (tx_T1, [t00], (fun _ => none), [55, 55, 55, 55, 55, 55, 55, 55, 55, 55, 55, 55, 55, 55, 55, 55])
theorem tx_E20 : fPut 55 tx_F19 = (16, tx_F20) := fPut_v (n := 1) (bs := [55]) (by decide +kernel) (by decide) (by decide +kernel) (by decide +kernel) (by decide +kernel)
theorem tx_O20 : FOk tx_F20 := kstep2 tx_E20 (fPut_ok tx_O19)
def tx_F21 : FS := (tx_T1, [t00], (fun _ => none), [55, 55, 55, 55, 55, 55, 55, 55, 55, 55, 55, 55, 55, 55, 55, 55, 55])
theorem tx_E21 : fPut 55 tx_F20 = (17, tx_F21) := fPut_v (n := 1) (bs := [55]) (by decide +kernel) (by decide) (by decide +kernel) (by decide +kernel) (by decide +kernel)
theorem tx_O21 : FOk tx_F21 := kstep2 tx_E21 (fPut_ok tx_O20)
def tx_F22 : FS := (tx_T1, [t00], (fun _ => none), [55, 55, 55, 55, 55, 55, 55, 55, 55, 55, 55, 55, 55, 55, 55, 55, 55, 55])
theorem tx_E22 : fPut 55 tx_F21 = (18, tx_F22) := fPut_v (n := 1) (bs := [55]) (by decide +kernel) (by decide) (by decide +kernel) (by decide +kernel) (by decide +kernel)
theorem tx_O22 : FOk tx_F22 := kstep2 tx_E22 (fPut_ok tx_O21)
def tx_F23 : FS := (tx_T1, [t00], (fun _ => none), [55, 55, 55, 55, 55, 55, 55, 55, 55, 55, 55, 55, 55, 55, 55, 55, 55, 55, 55])
theorem tx_E23 : fPut 55 tx_F22 = (19, tx_F23) := fPut_v (n := 1) (bs := [55]) (by decide +kernel) (by decide) (by decide +kernel) (by decide +kernel) (by decide +kernel)
theorem tx_O23 : FOk tx_F23 := kstep2 tx_E23 (fPut_ok tx_O22)
def tx_F24 : FS := (tx_T1, [t00], (fun _ => none), [55, 55, 55, 55, 55, 55, 55, 55, 55, 55, 55, 55, 55, 55, 55, 55, 55, 55, 55, 55])
theorem tx_E24 : fPut 55 tx_F23 = (20, tx_F24) := fPut_v (n := 1) (bs := [55]) (by decide +kernel) (by decide) (by decide +kernel) (by decide +kernel) (by decide +kernel)
theorem tx_O24 : FOk tx_F24 := kstep2 tx_E24 (fPut_ok tx_O23)
def tx_F25 : FS := (tx_T1, [t00], (fun _ => none), [55, 55, 55, 55, 55, 55, 55, 55, 55, 55, 55, 55, 55, 55, 55, 55, 55, 55, 55, 55, 55])
theorem tx_E25 : fPut 55 tx_F24 = (21, tx_F25) := fPut_v (n := 1) (bs := [55]) (by decide +kernel) (by decide) (by decide +kernel) (by decide +kernel) (by decide +kernel)
theorem tx_O25 : FOk tx_F25 := kstep2 tx_E25 (fPut_ok tx_O24)
def tx_F26 : FS := (tx_T1, [t00], (fun _ => none), [55, 55, 55, 55, 55, 55, 55, 55, 55, 55, 55, 55, 55, 55, 55, 55, 55, 55, 55, 55, 55, 55])
theorem tx_E26 : fPut 55 tx_F25 = (22, tx_F26) := fPut_v (n := 1) (bs := [55]) (by decide +kernel) (by decide) (by decide +kernel) (by decide +kernel) (by decide +kernel)
theorem tx_O26 : FOk tx_F26 := kstep2 tx_E26 (fPut_ok tx_O25)
def tx_F27 : FS := (tx_T1, [t00], (fun _ => none), [55, 55, 55, 55, 55, 55, 55, 55, 55, 55, 55, 55, 55, 55, 55, 55, 55, 55, 55, 55, 55, 55, 55])
theorem tx_E27 : fPut 55 tx_F26 = (23, tx_F27) := fPut_v (n := 1) (bs := [55]) (by decide +kernel) (by decide) (by decide +kernel) (by decide +kernel) (by decide +kernel)
theorem tx_O27 : FOk tx_F27 := kstep2 tx_E27 (fPut_ok tx_O26)
def tx_F28 : FS := (tx_T1, [t00], (fun _ => none), [55, 55, 55, 55, 55, 55, 55, 55, 55, 55, 55, 55, 55, 55, 55, 55, 55, 55, 55, 55, 55, 55, 55, 55])
theorem tx_E28 : fPut 55 tx_F27 = (24, tx_F28) := fPut_v (n := 1) (bs := [55]) (by decide +kernel) (by decide) (by decide +kernel) (by decide +kernel) (by decide +kernel)
theorem tx_O28 : FOk tx_F28 := kstep2 tx_E28 (fPut_ok tx_O27)
def tx_F29 : FS := (tx_T1, [t00], (fun _ => none), [55, 55, 55, 55, 55, 55, 55, 55, 55, 55, 55, 55, 55, 55, 55, 55, 55, 55, 55, 55, 55, 55, 55, 55, 55])
theorem tx_E29 : fPut 55 tx_F28 = (25, tx_F29) := fPut_v (n := 1) (bs := [55]) (by decide +kernel) (by decide) (by decide +kernel) (by decide +kernel) (by decide +kernel)
theorem tx_O29 : FOk tx_F29 := kstep2 tx_E29 (fPut_ok tx_O28)
def tx_F30 : FS := (tx_T1, [t00], (fun _ => none), [55, 55, 55, 55, 55, 55, 55, 55, 55, 55, 55, 55, 55, 55, 55, 55, 55, 55, 55, 55, 55, 55, 55, 55, 55, 55])
theorem tx_E30 : fPut 55 tx_F29 = (26, tx_F30) := fPut_v (n := 1) (bs := [55]) (by decide +kernel) (by decide) (by decide +kernel) (by decide +kernel) (by decide +kernel)
theorem tx_O30 : FOk tx_F30 := kstep2 tx_E30 (fPut_ok tx_O29)
def tx_F31 : FS := (tx_T1, [t00], (fun _ => none), [55, 55, 55, 55, 55, 55, 55, 55, 55, 55, 55, 55, 55, 55, 55, 55, 55, 55, 55, 55, 55, 55, 55, 55, 55, 55, 55])
theorem tx_E31 : fPut 55 tx_F30 = (27, tx_F31) := fPut_v (n := 1) (bs := [55]) (by decide +kernel) (by decide) (by decide +kernel) (by decide +kernel) (by decide +kernel)
theorem tx_O31 : FOk tx_F31 := kstep2 tx_E31 (fPut_ok tx_O30)
def tx_F32 : FS := (tx_T1, [t00], (fun _ => none), [55, 55, 55, 55, 55, 55, 55, 55, 55, 55, 55, 55, 55, 55, 55, 55, 55, 55, 55, 55, 55, 55, 55, 55, 55, 55, 55, 55])
theorem tx_E32 : fPut 55 tx_F31 = (28, tx_F32) := fPut_v (n := 1) (bs := [55]) (by decide +kernel) (by decide) (by decide +kernel) (by decide +kernel) (by decide +kernel)
theorem tx_O32 : FOk tx_F32 := kstep2 tx_E32 (fPut_ok tx_O31)
def tx_F33 : FS := (tx_T1, [t00], (fun _ => none), [55, 55, 55, 55, 55, 55, 55, 55, 55, 55, 55, 55, 55, 55, 55, 55, 55, 55, 55, 55, 55, 55, 55, 55, 55, 55, 55, 55, 55])
theorem tx_E33 : fPut 55 tx_F32 = (29, tx_F33) := fPut_v (n := 1) (bs := [55]) (by decide +kernel) (by decide) (by decide +kernel) (by decide +kernel) (by decide +kernel)
theorem tx_O33 : FOk tx_F33 := kstep2 tx_E33 (fPut_ok tx_O32)
def tx_F34 : FS := (tx_T1, [t00], (fun _ => none), [55, 55, 55, 55, 55, 55, 55, 55, 55, 55, 55, 55, 55, 55, 55, 55, 55, 55, 55, 55, 55, 55, 55, 55, 55, 55, 55, 55, 55, 55])
theorem tx_E34 : fPut 55 tx_F33 = (30, tx_F34) := fPut_v (n := 1) (bs := [55]) (by decide +kernel) (by decide) (by decide +kernel) (by decide +kernel) (by decide +kernel)
theorem tx_O34 : FOk tx_F34 := kstep2 tx_E34 (fPut_ok tx_O33)
def tx_F35 : FS := (tx_T1, [t00], (fun _ => none), [55, 55, 55, 55, 55, 55, 55, 55, 55, 55, 55, 55, 55, 55, 55, 55, 55, 55, 55, 55, 55, 55, 55, 55, 55, 55, 55, 55, 55, 55, 55])
theorem tx_E35 : fPut 55 tx_F34 = (31, tx_F35) := fPut_v (n := 1) (bs := [55]) (by decide +kernel) (by decide) (by decide +kernel) (by decide +kernel) (by decide +kernel)
theorem tx_O35 : FOk tx_F35 := kstep2 tx_E35 (fPut_ok tx_O34)
def tx_F36 : FS := (tx_T1, [t00], (fun _ => none), [55, 55, 55, 55, 55, 55, 55, 55, 55, 55, 55, 55, 55, 55, 55, 55, 55, 55, 55, 55, 55, 55, 55, 55, 55, 55, 55, 55, 55, 55, 55, 55])
theorem tx_E36 : fPut 55 tx_F35 = (32, tx_F36) := fPut_v (n := 1) (bs := [55]) (by decide +kernel) (by decide) (by decide +kernel) (by decide +kernel) (by decide +kernel)
theorem tx_O36 : FOk tx_F36 := kstep2 tx_E36 (fPut_ok tx_O35)
def tx_F37 : FS := (tx_T1, [t00], (fun _ => none), [55, 55, 55, 55, 55, 55, 55, 55, 55, 55, 55, 55, 55, 55, 55, 55, 55, 55, 55, 55, 55, 55, 55, 55, 55, 55, 55, 55, 55, 55, 55, 55, 55])
theorem tx_E37 : fPut 55 tx_F36 = (33, tx_F37) := fPut_v (n := 1) (bs := [55]) (by decide +kernel) (by decide) (by decide +kernel) (by decide +kernel) (by decide +kernel)
theorem tx_O37 : FOk tx_F37 := kstep2 tx_E37 (fPut_ok tx_O36)
def tx_F38 : FS := (tx_T1, [t00], (fun _ => none), [55, 55, 55, 55, 55, 55, 55, 55, 55, 55, 55, 55, 55, 55, 55, 55, 55, 55, 55, 55, 55, 55, 55, 55, 55, 55, 55, 55, 55, 55, 55, 55, 55, 55])
theorem tx_E38 : fPut 55 tx_F37 = (34, tx_F38) := fPut_v (n := 1) (bs := [55]) (by decide +kernel) (by decide) (by decide +kernel) (by decide +kernel) (by decide +kernel)
theorem tx_O38 : FOk tx_F38 := kstep2 tx_E38 (fPut_ok tx_O37)
def tx_F39 : FS := (tx_T1, [t00], (fun _ => none), [55, 55, 55, 55, 55, 55, 55, 55, 55, 55, 55, 55, 55, 55, 55, 55, 55, 55, 55, 55, 55, 55, 55, 55, 55, 55, 55, 55, 55, 55, 55, 55, 55, 55, 55])
theorem tx_E39 : fPut 55 tx_F38 = (35, tx_F39) := fPut_v (n := 1) (bs := [55]) (by decide +kernel) (by decide) (by decide +kernel) (by decide +kernel) (by decide +kernel)
theorem tx_O39 : FOk tx_F39 := kstep2 tx_E39 (fPut_ok tx_O38)
def tx_F40 : FS := (tx_T1, [t00], (fun _ => none), [55, 55, 55, 55, 55, 55, 55, 55, 55, 55, 55, 55, 55, 55, 55, 55, 55, 55, 55, 55, 55, 55, 55, 55, 55, 55, 55, 55, 55, 55, 55, 55, 55, 55, 55, 55])
theorem tx_E40 : fPut 55 tx_F39 = (36, tx_F40) := fPut_v (n := 1) (bs := [55]) (by decide +kernel) (by decide) (by decide +kernel) (by decide +kernel) (by decide +kernel)
theorem tx_O40 : FOk tx_F40 := kstep2 tx_E40 (fPut_ok tx_O39)
def tx_F41 : FS := (tx_T1, [t00], (fun _ => none), [55, 55, 55, 55, 55, 55, 55, 55, 55, 55, 55, 55, 55, 55, 55, 55, 55, 55, 55, 55, 55, 55, 55, 55, 55, 55, 55, 55, 55, 55, 55, 55, 55, 55, 55, 55, 55])
theorem tx_E41 : fPut 55 tx_F40 = (37, tx_F41) := fPut_v (n := 1) (bs := [55]) (by decide +kernel) (by decide) (by decide +kernel) (by decide +kernel) (by decide +kernel)
theorem tx_O41 : FOk tx_F41 := kstep2 tx_E41 (fPut_ok tx_O40)
def tx_F42 : FS := (tx_T1, [t00], (fun _ => none), [55, 55, 55, 55, 55, 55, 55, 55, 55, 55, 55, 55, 55, 55, 55, 55, 55, 55, 55, 55, 55, 55, 55, 55, 55, 55, 55, 55, 55, 55, 55, 55, 55, 55, 55, 55, 55, 55])
theorem tx_E42 : fPut 55 tx_F41 = (38, tx_F42) := fPut_v (n := 1) (bs := [55]) (by decide +kernel) (by decide) (by decide +kernel) (by decide +kernel) (by decide +kernel)
theorem tx_O42 : FOk tx_F42 := kstep2 tx_E42 (fPut_ok tx_O41)
def tx_F43 : FS := (tx_T1, [t00], (fun _ => none), [55, 55, 55, 55, 55, 55, 55, 55, 55, 55, 55, 55, 55, 55, 55, 55, 55, 55, 55, 55, 55, 55, 55, 55, 55, 55, 55, 55, 55, 55, 55, 55, 55, 55, 55, 55, 55, 55, 55])
theorem tx_E43 : fPut 55 tx_F42 = (39, tx_F43) := fPut_v (n := 1) (bs := [55]) (by decide +kernel) (by decide) (by decide +kernel) (by decide +kernel) (by decide +kernel)
theorem tx_O43 : FOk tx_F43 := kstep2 tx_E43 (fPut_ok tx_O42)
def tx_F44 : FS := (tx_T1, [t00], (fun _ => none), [55, 55, 55, 55, 55, 55, 55, 55, 55, 55, 55, 55, 55, 55, 55, 55, 55, 55, 55, 55, 55, 55, 55, 55, 55, 55, 55, 55, 55, 55, 55, 55, 55, 55, 55, 55, 55, 55, 55, 55])
theorem tx_E44 : fPut 55 tx_F43 = (40, tx_F44) := fPut_v (n := 1) (bs := [55]) (by decide +kernel) (by decide) (by decide +kernel) (by decide +kernel) (by decide +kernel)
theorem tx_O44 : FOk tx_F44 := kstep2 tx_E44 (fPut_ok tx_O43)
def tx_F45 : FS := (tx_T1, [t00], (fun _ => none), [55, 55, 55, 55, 55, 55, 55, 55, 55, 55, 55, 55, 55, 55, 55, 55, 55, 55, 55, 55, 55, 55, 55, 55, 55, 55, 55, 55, 55, 55, 55, 55, 55, 55, 55, 55, 55, 55, 55, 55, 55])
theorem tx_E45 : fPut 55 tx_F44 = (41, tx_F45) := fPut_v (n := 1) (bs := [55]) (by decide +kernel) (by decide) (by decide +kernel) (by decide +kernel) (by decide +kernel)
theorem tx_O45 : FOk tx_F45 := kstep2 tx_E45 (fPut_ok tx_O44)
def tx_F46 : FS := (tx_T1, [t00], (fun _ => none), [55, 55, 55, 55, 55, 55, 55, 55, 55, 55, 55, 55, 55, 55, 55, 55, 55, 55, 55, 55, 55, 55, 55, 55, 55, 55, 55, 55, 55, 55, 55, 55, 55, 55, 55, 55, 55, 55, 55, 55, 55, 55])
theorem tx_E46 : fPut 55 tx_F45 = (42, tx_F46) := fPut_v (n := 1) (bs := [55]) (by decide +kernel) (by decide) (by decide +kernel) (by decide +kernel) (by decide +kernel)
theorem tx_O46 : FOk tx_F46 := kstep2 tx_E46 (fPut_ok tx_O45)
def tx_F47 : FS := (tx_T1, [t00], (fun _ => none), [55, 55, 55, 55, 55, 55, 55, 55, 55, 55, 55, 55, 55, 55, 55, 55, 55, 55, 55, 55, 55, 55, 55, 55, 55, 55, 55, 55, 55, 55, 55, 55, 55, 55, 55, 55, 55, 55, 55, 55, 55, 55, 55])
theorem tx_E47 : fPut 55 tx_F46 = (43, tx_F47) := fPut_v (n := 1) (bs := [55]) (by decide +kernel) (by decide) (by decide +kernel) (by decide +kernel) (by decide +kernel)
theorem tx_O47 : FOk tx_F47 := kstep2 tx_E47 (fPut_ok tx_O46)
def tx_F48 : FS := (tx_T1, [t00], (fun _ => none), [55, 55, 55, 55, 55, 55, 55, 55, 55, 55, 55, 55, 55, 55, 55, 55, 55, 55, 55, 55, 55, 55, 55, 55, 55, 55, 55, 55, 55, 55, 55, 55, 55, 55, 55, 55, 55, 55, 55, 55, 55, 55, 55, 55])
theorem tx_E48 : fPut 55 tx_F47 = (44, tx_F48) := fPut_v (n := 1) (bs := [55]) (by decide +kernel) (by decide) (by decide +kernel) (by decide +kernel) (by decide +kernel)
theorem tx_O48 : FOk tx_F48 := kstep2 tx_E48 (fPut_ok tx_O47)
def tx_F49 : FS := (tx_T1, [t00], (fun _ => none), [55, 55, 55, 55, 55, 55, 55, 55, 55, 55, 55, 55, 55, 55, 55, 55, 55, 55, 55, 55, 55, 55, 55, 55, 55, 55, 55, 55, 55, 55, 55, 55, 55, 55, 55, 55, 55, 55, 55, 55, 55, 55, 55, 55, 55])
theorem tx_E49 : fPut 55 tx_F48 = (45, tx_F49) := fPut_v (n := 1) (bs := [55]) (by decide +kernel) (by decide) (by decide +kernel) (by decide +kernel) (by decide +kernel)
theorem tx_O49 : FOk tx_F49 := kstep2 tx_E49 (fPut_ok tx_O48)
def tx_F50 : FS := (tx_T1, [t00], (fun _ => none), [55, 55, 55, 55, 55, 55, 55, 55, 55, 55, 55, 55, 55, 55, 55, 55, 55, 55, 55, 55, 55, 55, 55, 55, 55, 55, 55, 55, 55, 55, 55, 55, 55, 55, 55, 55, 55, 55, 55, 55, 55, 55, 55, 55, 55, 55])
theorem tx_E50 : fPut 55 tx_F49 = (46, tx_F50) := fPut_v (n := 1) (bs := [55]) (by decide +kernel) (by decide) (by decide +kernel) (by decide +kernel) (by decide +kernel)
theorem tx_O50 : FOk tx_F50 := kstep2 tx_E50 (fPut_ok tx_O49)
def tx_F51 : FS := (tx_T1, [t00], (fun _ => none), [55, 55, 55, 55, 55, 55, 55, 55, 55, 55, 55, 55, 55, 55, 55, 55, 55, 55, 55, 55, 55, 55, 55, 55, 55, 55, 55, 55, 55, 55, 55, 55, 55, 55, 55, 55, 55, 55, 55, 55, 55, 55, 55, 55, 55, 55, 55])
theorem tx_E51 : fPut 55 tx_F50 = (47, tx_F51) := fPut_v (n := 1) (bs := [55]) (by decide +kernel) (by decide) (by decide +kernel) (by decide +kernel) (by decide +kernel)
theorem tx_O51 : FOk tx_F51 := kstep2 tx_E51 (fPut_ok tx_O50)
def tx_F52 : FS := (tx_T1, [t00], (fun _ => none), [55, 55, 55, 55, 55, 55, 55, 55, 55, 55, 55, 55, 55, 55, 55, 55, 55, 55, 55, 55, 55, 55, 55, 55, 55, 55, 55, 55, 55, 55, 55, 55, 55, 55, 55, 55, 55, 55, 55, 55, 55, 55, 55, 55, 55, 55, 55, 55])
theorem tx_E52 : fPut 55 tx_F51 = (48, tx_F52) := fPut_v (n := 1) (bs := [55]) (by decide +kernel) (by decide) (by decide +kernel) (by decide +kernel) (by decide +kernel)
theorem tx_O52 : FOk tx_F52 := kstep2 tx_E52 (fPut_ok tx_O51)
def tx_F53 : FS := (tx_T1, [t00], (fun _ => none), [55, 55, 55, 55, 55, 55, 55, 55, 55, 55, 55, 55, 55, 55, 55, 55, 55, 55, 55, 55, 55, 55, 55, 55, 55, 55, 55, 55, 55, 55, 55, 55, 55, 55, 55, 55, 55, 55, 55, 55, 55, 55, 55, 55, 55, 55, 55, 55, 55])
theorem tx_E53 : fPut 55 tx_F52 = (49, tx_F53) := fPut_v (n := 1) (bs := [55]) (by decide +kernel) (by decide) (by decide +kernel) (by decide +kernel) (by decide +kernel)
theorem tx_O53 : FOk tx_F53 := kstep2 tx_E53 (fPut_ok tx_O52)
def tx_F54 : FS := (tx_T1, [t00], (fun _ => none), [55, 55, 55, 55, 55, 55, 55, 55, 55, 55, 55, 55, 55, 55, 55, 55, 55, 55, 55, 55, 55, 55, 55, 55, 55, 55, 55, 55, 55, 55, 55, 55, 55, 55, 55, 55, 55, 55, 55, 55, 55, 55, 55, 55, 55, 55, 55, 55, 55, 55])
theorem tx_E54 : fPut 55 tx_F53 = (50, tx_F54) := fPut_v (n := 1) (bs := [55]) (by decide +kernel) (by decide) (by decide +kernel) (by decide +kernel) (by decide +kernel)
theorem tx_O54 : FOk tx_F54 := kstep2 tx_E54 (fPut_ok tx_O53)
def tx_F55 : FS := (tx_T1, [t00], (fun _ => none), [55, 55, 55, 55, 55, 55, 55, 55, 55, 55, 55, 55, 55, 55, 55, 55, 55, 55, 55, 55, 55, 55, 55, 55, 55, 55, 55, 55, 55, 55, 55, 55, 55, 55, 55, 55, 55, 55, 55, 55, 55, 55, 55, 55, 55, 55, 55, 55, 55, 55, 55])
theorem tx_E55 : fPut 55 tx_F54 = (51, tx_F55) := fPut_v (n := 1) (bs := [55]) (by decide +kernel) (by decide) (by decide +kernel) (by decide +kernel) (by decide +kernel)
theorem tx_O55 : FOk tx_F55 := kstep2 tx_E55 (fPut_ok tx_O54)
def tx_F56 : FS := (tx_T1, [t00], (fun _ => none), [55, 55, 55, 55, 55, 55, 55, 55, 55, 55, 55, 55, 55, 55, 55, 55, 55, 55, 55, 55, 55, 55, 55, 55, 55, 55, 55, 55, 55, 55, 55, 55, 55, 55, 55, 55, 55, 55, 55, 55, 55, 55, 55, 55, 55, 55, 55, 55, 55, 55, 55, 55])
theorem tx_E56 : fPut 55 tx_F55 = (52, tx_F56) := fPut_v (n := 1) (bs := [55]) (by decide +kernel) (by decide) (by decide +kernel) (by decide +kernel) (by decide +kernel)
theorem tx_O56 : FOk tx_F56 := kstep2 tx_E56 (fPut_ok tx_O55)
def tx_F57 : FS := (tx_T1, [t00], (fun _ => none), [55, 55, 55, 55, 55, 55, 55, 55, 55, 55, 55, 55, 55, 55, 55, 55, 55, 55, 55, 55, 55, 55, 55, 55, 55, 55, 55, 55, 55, 55, 55, 55, 55, 55, 55, 55, 55, 55, 55, 55, 55, 55, 55, 55, 55, 55, 55, 55, 55, 55, 55, 55, 55])
theorem tx_E57 : fPut 55 tx_F56 = (53, tx_F57) := fPut_v (n := 1) (bs := [55]) (by decide +kernel) (by decide) (by decide +kernel) (by decide +kernel) (by decide +kernel)
theorem tx_O57 : FOk tx_F57 := kstep2 tx_E57 (fPut_ok tx_O56)
def tx_F58 : FS := (tx_T1, [t00], (fun _ => none), [55, 55, 55, 55, 55, 55, 55, 55, 55, 55, 55, 55, 55, 55, 55, 55, 55, 55, 55, 55, 55, 55, 55, 55, 55, 55, 55, 55, 55, 55, 55, 55, 55, 55, 55, 55, 55, 55, 55, 55, 55, 55, 55, 55, 55, 55, 55, 55, 55, 55, 55, 55, 55, 55])
theorem tx_E58 : fPut 55 tx_F57 = (54, tx_F58) := fPut_v (n := 1) (bs := [55]) (by decide +kernel) (by decide) (by decide +kernel) (by decide +kernel) (by decide +kernel)
theorem tx_O58 : FOk tx_F58 := kstep2 tx_E58 (fPut_ok tx_O57)
def tx_F59 : FS := (tx_T1, [t00], (fun _ => none), [55, 55, 55, 55, 55, 55, 55, 55, 55, 55, 55, 55, 55, 55, 55, 55, 55, 55, 55, 55, 55, 55, 55, 55, 55, 55, 55, 55, 55, 55, 55, 55, 55, 55, 55, 55, 55, 55, 55, 55, 55, 55, 55, 55, 55, 55, 55, 55, 55, 55, 55, 55, 55, 55, 55])
theorem tx_E59 : fPut 55 tx_F58 = (55, tx_F59) := fPut_v (n := 1) (bs := [55]) (by decide +kernel) (by decide) (by decide +kernel) (by decide +kernel) (by decide +kernel)
theorem tx_O59 : FOk tx_F59 := kstep2 tx_E59 (fPut_ok tx_O58)
def tx_F60 : FS := (tx_T1, [t00], (fun _ => none), [55, 55, 55, 55, 55, 55, 55, 55, 55, 55, 55, 55, 55, 55, 55, 55, 55, 55, 55, 55, 55, 55, 55, 55, 55, 55, 55, 55, 55, 55, 55, 55, 55, 55, 55, 55, 55, 55, 55, 55, 55, 55, 55, 55, 55, 55, 55, 55, 55, 55, 55, 55, 55, 55, 55, 55])
theorem tx_E60 : fPut 55 tx_F59 = (56, tx_F60) := fPut_v (n := 1) (bs := [55]) (by decide +kernel) (by decide) (by decide +kernel) (by decide +kernel) (by decide +kernel)
theorem tx_O60 : FOk tx_F60 := kstep2 tx_E60 (fPut_ok tx_O59)
def tx_F61 : FS := (tx_T1, [t00], (fun _ => none), [55, 55, 55, 55, 55, 55, 55, 55, 55, 55, 55, 55, 55, 55, 55, 55, 55, 55, 55, 55, 55, 55, 55, 55, 55, 55, 55, 55, 55, 55, 55, 55, 55, 55, 55, 55, 55, 55, 55, 55, 55, 55, 55, 55, 55, 55, 55, 55, 55, 55, 55, 55, 55, 55, 55, 55, 55])
theorem tx_E61 : fPut 55 tx_F60 = (57, tx_F61) := fPut_v (n := 1) (bs := [55]) (by decide +kernel) (by decide) (by decide +kernel) (by decide +kernel) (by decide +kernel)
theorem tx_O61 : FOk tx_F61 := kstep2 tx_E61 (fPut_ok tx_O60)
def tx_F62 : FS := (tx_T1, [t00], (fun _ => none), [55, 55, 55, 55, 55, 55, 55, 55, 55, 55, 55, 55, 55, 55, 55, 55, 55, 55, 55, 55, 55, 55, 55, 55, 55, 55, 55, 55, 55, 55, 55, 55, 55, 55, 55, 55, 55, 55, 55, 55, 55, 55, 55, 55, 55, 55, 55, 55, 55, 55, 55, 55, 55, 55, 55, 55, 55, 55])
theorem tx_E62 : fPut 55 tx_F61 = (58, tx_F62) := fPut_v (n := 1) (bs := [55]) (by decide +kernel) (by decide) (by decide +kernel) (by decide +kernel) (by decide +kernel)
theorem tx_O62 : FOk tx_F62 := kstep2 tx_E62 (fPut_ok tx_O61)
def tx_F63 : FS := (tx_T1, [t00], (fun _ => none), [55, 55, 55, 55, 55, 55, 55, 55, 55, 55, 55, 55, 55, 55, 55, 55, 55, 55, 55, 55, 55, 55, 55, 55, 55, 55, 55, 55, 55, 55, 55, 55, 55, 55, 55, 55, 55, 55, 55, 55, 55, 55, 55, 55, 55, 55, 55, 55, 55, 55, 55, 55, 55, 55, 55, 55, 55, 55, 55])
theorem tx_E63 : fPut 55 tx_F62 = (59, tx_F63) := fPut_v (n := 1) (bs := [55]) (by decide +kernel) (by decide) (by decide +kernel) (by decide +kernel) (by decide +kernel)
theorem tx_O63 : FOk tx_F63 := kstep2 tx_E63 (fPut_ok tx_O62)
def tx_F64 : FS := (tx_T1, [t00], (fun _ => none), [55, 55, 55, 55, 55, 55, 55, 55, 55, 55, 55, 55, 55, 55, 55, 55, 55, 55, 55, 55, 55, 55, 55, 55, 55, 55, 55, 55, 55, 55, 55, 55, 55, 55, 55, 55, 55, 55, 55, 55, 55, 55, 55, 55, 55, 55, 55, 55, 55, 55, 55, 55, 55, 55, 55, 55, 55, 55, 55, 55])
theorem tx_E64 : fPut 55 tx_F63 = (60, tx_F64) := fPut_v (n := 1) (bs := [55]) (by decide +kernel) (by decide) (by decide +kernel) (by decide +kernel) (by decide +kernel)
theorem tx_O64 : FOk tx_F64 := kstep2 tx_E64 (fPut_ok tx_O63)
theorem tx_z8 : fPut 55 tx_F64 = (-4, tx_F64) := fPut_full (n := 1) (by decide +kernel) (by decide) (by decide +kernel)
theorem tx_z9 : fPut 14080 tx_F64 = (-2, tx_F64) := fPut_bad (by decide +kernel)
theorem tx_v10 : fFault tx_F64 = 1 := by decide +kernel
def tx_F65 : FS := (tx_T1, [t00], (fun _ => none), [])
theorem tx_E65 : fWipe tx_F64 = (60, tx_F65) := rfl
theorem tx_O65 : FOk tx_F65 := kstep2 tx_E65 (fWipe_ok tx_O64)
def tx_F66 : FS := (tx_T1, [t00], (fun _ => none), [])
theorem tx_E66 : fWipe tx_F65 = (0, tx_F66) := rfl
theorem tx_O66 : FOk tx_F66 := kstep2 tx_E66 (fWipe_ok tx_O65)
def tx_F67 : FS := (t00, [], (fun _ => none), [])
theorem tx_E67 : fUndo tx_F66 = (0, tx_F67) := fUndo_v _ _ _ _
theorem tx_O67 : FOk tx_F67 := kstep2 tx_E67 (fUndo_ok tx_O66)
theorem tx_z11 : fUndo tx_F67 = (-5, tx_F67) := fUndo_0 _ _
theorem tx_v12 : fCount 1 tx_F67 = 0 := by decide +kernel
theorem kn_v0 : fHeavy 0 F00 = (-6) := by decide +kernel
theorem kn_v1 : fKey 5 0 F00 = (-6) := by decide +kernel
def kn_T1 : TS := (4, 1, 0, 3, mkW [([], 0, 0, 0), ([], 0, 0, 0), ([], 0, 0, 0), ([], 0, 0, 0), ([], 0, 0, 0), ([], 0, 0, 0), ([], 0, 0, 0), ([], 0, 0, 0), ([], 0, 0, 0), ([], 0, 0, 0), ([], 0, 0, 0), ([], 0, 0, 0), ([], 0, 0, 0)] [none, none, none, none, none, none, none, none, none, none, none, none, none, none, none, none, none, none, none, none, none, none, none, none, none, none, none] 0)
def kn_F1 : FS := (kn_T1, [t00], (fun _ => none), [])
theorem kn_E1 : fRead 5 F00 = ((-6), (t00.1, t00.2.1, t00.2.2.1, t00.2.2.2.1 + 3, t00.2.2.2.2), ([t00], (fun _ => none), [])) := fRead_v (k := 5) (F := F00) (by decide) (by decide +kernel)
theorem kn_B1 : teqB ((t00.1, t00.2.1, t00.2.2.1, t00.2.2.2.1 + 3, t00.2.2.2.2)) kn_T1 = true := by decide +kernel
theorem kn_O1 : FOk kn_F1 := kstep kn_E1 (fRead_ok F00_ok) kn_B1
theorem kn_R1 {μ : Mem} (h : RepF μ ((t00.1, t00.2.1, t00.2.2.1, t00.2.2.2.1 + 3, t00.2.2.2.2), ([t00], (fun _ => none), []))) : RepF μ kn_F1 := RepF_teq h kn_B1
theorem kn_v2 : fCount 4 kn_F1 = 3 := by decide +kernel
theorem kn_v3 : fSame 0 26 kn_F1 = 1 := by decide +kernel
theorem kn_z4 : fRest 0 kn_F1 = (-5, kn_F1) := fRest_n (i := 0) (by decide) rfl
def kn_T2 : TS := (4, 1, 1, 3, mkW [([(0, 5, 5, 100)], 0, 0, 0), ([], 0, 0, 0), ([], 0, 0, 0), ([], 0, 0, 0), ([], 0, 0, 0), ([], 0, 0, 0), ([], 0, 0, 0), ([], 0, 0, 0), ([], 0, 0, 0), ([], 0, 0, 0), ([], 0, 0, 0), ([], 0, 0, 0), ([], 0, 0, 0)] [none, none, none, none, none, none, none, none, none, none, none, none, none, none, none, none, none, none, none, none, none, none, none, none, none, none, none] 0)
def kn_F2 : FS := (kn_T2, [kn_T1, t00], (fun _ => none), [])
theorem kn_E2 : fSend 0 5 5 100 kn_F1 = (1, dropT (0, 5, 5, 100) kn_T1, ([kn_T1, t00], (fun _ => none), [])) := fSend_v (K := 0) (f := 5) (l := 5) (N := 100) (F := kn_F1) (by decide) (by decide) (by decide) (by decide) (by decide) (by decide +kernel)
theorem kn_B2 : teqB (dropT (0, 5, 5, 100) kn_T1) kn_T2 = true := by decide +kernel
theorem kn_O2 : FOk kn_F2 := kstep kn_E2 (fSend_ok kn_O1) kn_B2
theorem kn_R2 {μ : Mem} (h : RepF μ (dropT (0, 5, 5, 100) kn_T1, ([kn_T1, t00], (fun _ => none), []))) : RepF μ kn_F2 := RepF_teq h kn_B2
def kn_T3 : TS := (4, 1, 2, 3, mkW [([(0, 5, 5, 20)], 0, 0, 1), ([], 0, 0, 0), ([], 0, 0, 0), ([], 0, 0, 0), ([], 0, 0, 0), ([], 0, 0, 0), ([], 0, 0, 0), ([], 0, 0, 0), ([], 0, 0, 0), ([], 0, 0, 0), ([], 0, 0, 0), ([], 0, 0, 0), ([], 0, 0, 0)] [none, none, none, none, none, none, none, none, none, none, none, none, none, none, none, none, none, none, none, none, none, none, none, none, none, none, none] 0)
def kn_F3 : FS := (kn_T3, [kn_T2, kn_T1, t00], (fun _ => none), [])
theorem kn_E3 : fSend 1 5 5 920 kn_F2 = (1, dropT (1, 5, 5, 920) kn_T2, ([kn_T2, kn_T1, t00], (fun _ => none), [])) := fSend_v (K := 1) (f := 5) (l := 5) (N := 920) (F := kn_F2) (by decide) (by decide) (by decide) (by decide) (by decide) (by decide +kernel)
theorem kn_B3 : teqB (dropT (1, 5, 5, 920) kn_T2) kn_T3 = true := by decide +kernel
theorem kn_O3 : FOk kn_F3 := kstep kn_E3 (fSend_ok kn_O2) kn_B3
theorem kn_R3 {μ : Mem} (h : RepF μ (dropT (1, 5, 5, 920) kn_T2, ([kn_T2, kn_T1, t00], (fun _ => none), []))) : RepF μ kn_F3 := RepF_teq h kn_B3
theorem kn_v5 : fStone 0 0 0 kn_F3 = 0 := by decide +kernel
theorem kn_v6 : fStone 0 0 3 kn_F3 = 20 := by decide +kernel
theorem kn_v7 : fNode 0 5 kn_F3 = 1 := by decide +kernel
theorem kn_v8 : fKey 5 0 kn_F3 = (-6) := by decide +kernel
theorem kn_v9 : fKey 5 1 kn_F3 = 20 := by decide +kernel
theorem kn_v10 : fKey 5 2 kn_F3 = 1 := by decide +kernel
theorem kn_v11 : fKey 5 3 kn_F3 = 0 := by decide +kernel
theorem kn_v12 : fKey 6 3 kn_F3 = (-6) := by decide +kernel
def kn_T4 : TS := (4, 1, 2, 6, mkW [([(0, 5, 5, 20)], 0, 0, 1), ([], 0, 0, 0), ([], 0, 0, 0), ([], 0, 0, 0), ([], 0, 0, 0), ([], 0, 0, 0), ([], 0, 0, 0), ([], 0, 0, 0), ([], 0, 0, 0), ([], 0, 0, 0), ([], 0, 0, 0), ([], 0, 0, 0), ([], 0, 0, 0)] [none, none, none, none, none, none, none, none, none, none, none, none, none, none, none, none, none, none, none, none, none, none, none, none, none, none, none] 0)
def kn_F4 : FS := (kn_T4, [kn_T3, kn_T2, kn_T1, t00], (fun _ => none), [])
theorem kn_E4 : fRead 5 kn_F3 = (20, (kn_T3.1, kn_T3.2.1, kn_T3.2.2.1, kn_T3.2.2.2.1 + 3, kn_T3.2.2.2.2), ([kn_T3, kn_T2, kn_T1, t00], (fun _ => none), [])) := fRead_v (k := 5) (F := kn_F3) (by decide) (by decide +kernel)
theorem kn_B4 : teqB ((kn_T3.1, kn_T3.2.1, kn_T3.2.2.1, kn_T3.2.2.2.1 + 3, kn_T3.2.2.2.2)) kn_T4 = true := by decide +kernel
theorem kn_O4 : FOk kn_F4 := kstep kn_E4 (fRead_ok kn_O3) kn_B4
theorem kn_R4 {μ : Mem} (h : RepF μ ((kn_T3.1, kn_T3.2.1, kn_T3.2.2.1, kn_T3.2.2.2.1 + 3, kn_T3.2.2.2.2), ([kn_T3, kn_T2, kn_T1, t00], (fun _ => none), []))) : RepF μ kn_F4 := RepF_teq h kn_B4
def kn_T5 : TS := (4, 1, 3, 6, mkW [([(2, 5, 5, 0)], 0, 0, 2), ([], 0, 0, 0), ([], 0, 0, 0), ([], 0, 0, 0), ([], 0, 0, 0), ([], 0, 0, 0), ([], 0, 0, 0), ([], 0, 0, 0), ([], 0, 0, 0), ([], 0, 0, 0), ([], 0, 0, 0), ([], 0, 0, 0), ([], 0, 0, 0)] [none, none, none, none, none, none, none, none, none, none, none, none, none, none, none, none, none, none, none, none, none, none, none, none, none, none, none] 0)
def kn_F5 : FS := (kn_T5, [kn_T4, kn_T3, kn_T2, kn_T1, t00], (fun _ => none), [])
theorem kn_E5 : fSend 2 5 5 0 kn_F4 = (1, dropT (2, 5, 5, 0) kn_T4, ([kn_T4, kn_T3, kn_T2, kn_T1, t00], (fun _ => none), [])) := fSend_v (K := 2) (f := 5) (l := 5) (N := 0) (F := kn_F4) (by decide) (by decide) (by decide) (by decide) (by decide) (by decide +kernel)
theorem kn_B5 : teqB (dropT (2, 5, 5, 0) kn_T4) kn_T5 = true := by decide +kernel
theorem kn_O5 : FOk kn_F5 := kstep kn_E5 (fSend_ok kn_O4) kn_B5
theorem kn_R5 {μ : Mem} (h : RepF μ (dropT (2, 5, 5, 0) kn_T4, ([kn_T4, kn_T3, kn_T2, kn_T1, t00], (fun _ => none), []))) : RepF μ kn_F5 := RepF_teq h kn_B5
theorem kn_v13 : fStone 0 0 0 kn_F5 = 2 := by decide +kernel
theorem kn_v14 : fKey 5 1 kn_F5 = (-6) := by decide +kernel
def kn_T6 : TS := (4, 1, 4, 6, mkW [([(2, 5, 5, 0)], 0, 0, 3), ([], 0, 0, 0), ([], 0, 0, 0), ([], 0, 0, 0), ([], 0, 0, 0), ([], 0, 0, 0), ([], 0, 0, 0), ([], 0, 0, 0), ([], 0, 0, 0), ([], 0, 0, 0), ([], 0, 0, 0), ([], 0, 0, 0), ([], 0, 0, 0)] [none, none, none, none, none, none, none, none, none, none, none, none, none, none, none, none, none, none, none, none, none, none, none, none, none, none, none] 0)
def kn_F6 : FS := (kn_T6, [kn_T5, kn_T4, kn_T3, kn_T2, kn_T1, t00], (fun _ => none), [])
theorem kn_E6 : fSend 1 5 5 7 kn_F5 = (1, dropT (1, 5, 5, 7) kn_T5, ([kn_T5, kn_T4, kn_T3, kn_T2, kn_T1, t00], (fun _ => none), [])) := fSend_v (K := 1) (f := 5) (l := 5) (N := 7) (F := kn_F5) (by decide) (by decide) (by decide) (by decide) (by decide) (by decide +kernel)
theorem kn_B6 : teqB (dropT (1, 5, 5, 7) kn_T5) kn_T6 = true := by decide +kernel
theorem kn_O6 : FOk kn_F6 := kstep kn_E6 (fSend_ok kn_O5) kn_B6
theorem kn_R6 {μ : Mem} (h : RepF μ (dropT (1, 5, 5, 7) kn_T5, ([kn_T5, kn_T4, kn_T3, kn_T2, kn_T1, t00], (fun _ => none), []))) : RepF μ kn_F6 := RepF_teq h kn_B6
theorem kn_v15 : fNode 0 5 kn_F6 = 3 := by decide +kernel
theorem kn_v16 : fCount 1 kn_F6 = 4 := by decide +kernel
def kn_T7 : TS := (4, 1, 5, 6, mkW [([(2, 5, 5, 0), (1, 0, 26, 1)], 0, 0, 3), ([], 0, 0, 0), ([], 0, 0, 0), ([], 0, 0, 0), ([], 0, 0, 0), ([], 0, 0, 0), ([], 0, 0, 0), ([], 0, 0, 0), ([], 0, 0, 0), ([], 0, 0, 0), ([], 0, 0, 0), ([], 0, 0, 0), ([], 0, 0, 0)] [none, none, none, none, none, none, none, none, none, none, none, none, none, none, none, none, none, none, none, none, none, none, none, none, none, none, none] 0)
def kn_F7 : FS := (kn_T7, [kn_T6, kn_T5, kn_T4, kn_T3, kn_T2, kn_T1], (fun _ => none), [])
theorem kn_E7 : fSend 1 0 26 1 kn_F6 = (2, dropT (1, 0, 26, 1) kn_T6, ([kn_T6, kn_T5, kn_T4, kn_T3, kn_T2, kn_T1], (fun _ => none), [])) := fSend_v (K := 1) (f := 0) (l := 26) (N := 1) (F := kn_F6) (by decide) (by decide) (by decide) (by decide) (by decide) (by decide +kernel)
theorem kn_B7 : teqB (dropT (1, 0, 26, 1) kn_T6) kn_T7 = true := by decide +kernel
theorem kn_O7 : FOk kn_F7 := kstep kn_E7 (fSend_ok kn_O6) kn_B7
theorem kn_R7 {μ : Mem} (h : RepF μ (dropT (1, 0, 26, 1) kn_T6, ([kn_T6, kn_T5, kn_T4, kn_T3, kn_T2, kn_T1], (fun _ => none), []))) : RepF μ kn_F7 := RepF_teq h kn_B7
def kn_T8 : TS := (4, 1, 6, 6, mkW [([(2, 5, 5, 0), (1, 0, 26, 1), (0, 5, 5, 9)], 0, 0, 3), ([], 0, 0, 0), ([], 0, 0, 0), ([], 0, 0, 0), ([], 0, 0, 0), ([], 0, 0, 0), ([], 0, 0, 0), ([], 0, 0, 0), ([], 0, 0, 0), ([], 0, 0, 0), ([], 0, 0, 0), ([], 0, 0, 0), ([], 0, 0, 0)] [none, none, none, none, none, none, none, none, none, none, none, none, none, none, none, none, none, none, none, none, none, none, none, none, none, none, none] 0)
def kn_F8 : FS := (kn_T8, [kn_T7, kn_T6, kn_T5, kn_T4, kn_T3, kn_T2], (fun _ => none), [])
theorem kn_E8 : fSend 0 5 5 9 kn_F7 = (3, dropT (0, 5, 5, 9) kn_T7, ([kn_T7, kn_T6, kn_T5, kn_T4, kn_T3, kn_T2], (fun _ => none), [])) := fSend_v (K := 0) (f := 5) (l := 5) (N := 9) (F := kn_F7) (by decide) (by decide) (by decide) (by decide) (by decide) (by decide +kernel)
theorem kn_B8 : teqB (dropT (0, 5, 5, 9) kn_T7) kn_T8 = true := by decide +kernel
theorem kn_O8 : FOk kn_F8 := kstep kn_E8 (fSend_ok kn_O7) kn_B8
theorem kn_R8 {μ : Mem} (h : RepF μ (dropT (0, 5, 5, 9) kn_T7, ([kn_T7, kn_T6, kn_T5, kn_T4, kn_T3, kn_T2], (fun _ => none), []))) : RepF μ kn_F8 := RepF_teq h kn_B8
def kn_T9 : TS := (4, 1, 7, 6, mkW [([(2, 5, 5, 0), (1, 0, 26, 1), (0, 5, 5, 9), (0, 6, 6, 1)], 0, 0, 3), ([], 0, 0, 0), ([], 0, 0, 0), ([], 0, 0, 0), ([], 0, 0, 0), ([], 0, 0, 0), ([], 0, 0, 0), ([], 0, 0, 0), ([], 0, 0, 0), ([], 0, 0, 0), ([], 0, 0, 0), ([], 0, 0, 0), ([], 0, 0, 0)] [none, none, none, none, none, none, none, none, none, none, none, none, none, none, none, none, none, none, none, none, none, none, none, none, none, none, none] 0)
def kn_F9 : FS := (kn_T9, [kn_T8, kn_T7, kn_T6, kn_T5, kn_T4, kn_T3], (fun _ => none), [])
theorem kn_E9 : fSend 0 6 6 1 kn_F8 = (4, dropT (0, 6, 6, 1) kn_T8, ([kn_T8, kn_T7, kn_T6, kn_T5, kn_T4, kn_T3], (fun _ => none), [])) := fSend_v (K := 0) (f := 6) (l := 6) (N := 1) (F := kn_F8) (by decide) (by decide) (by decide) (by decide) (by decide) (by decide +kernel)
theorem kn_B9 : teqB (dropT (0, 6, 6, 1) kn_T8) kn_T9 = true := by decide +kernel
theorem kn_O9 : FOk kn_F9 := kstep kn_E9 (fSend_ok kn_O8) kn_B9
theorem kn_R9 {μ : Mem} (h : RepF μ (dropT (0, 6, 6, 1) kn_T8, ([kn_T8, kn_T7, kn_T6, kn_T5, kn_T4, kn_T3], (fun _ => none), []))) : RepF μ kn_F9 := RepF_teq h kn_B9
theorem kn_v17 : fNode 0 5 kn_F9 = 3 := by decide +kernel
theorem kn_v18 : fCount 2 kn_F9 = 0 := by decide +kernel
theorem kn_v19 : fWould 20 kn_F9 = 4 := by decide +kernel
def kn_T10 : TS := (4, 1, 8, 6, mkW [([(1, 9, 26, 1), (0, 20, 20, 3)], 1, 4, 3), ([(2, 5, 5, 0), (1, 0, 8, 1), (0, 5, 5, 9), (0, 6, 6, 1)], 0, 0, 0), ([], 0, 0, 0), ([], 0, 0, 0), ([], 0, 0, 0), ([], 0, 0, 0), ([], 0, 0, 0), ([], 0, 0, 0), ([], 0, 0, 0), ([], 0, 0, 0), ([], 0, 0, 0), ([], 0, 0, 0), ([], 0, 0, 0)] [none, none, none, none, none, none, none, none, none, none, none, none, none, none, none, none, none, none, none, none, none, none, none, none, none, none, none] 0)
def kn_F10 : FS := (kn_T10, [kn_T9, kn_T8, kn_T7, kn_T6, kn_T5, kn_T4], (fun _ => none), [])
theorem kn_E10 : fSend 0 20 20 3 kn_F9 = (6, dropT (0, 20, 20, 3) kn_T9, ([kn_T9, kn_T8, kn_T7, kn_T6, kn_T5, kn_T4], (fun _ => none), [])) := fSend_v (K := 0) (f := 20) (l := 20) (N := 3) (F := kn_F9) (by decide) (by decide) (by decide) (by decide) (by decide) (by decide +kernel)
theorem kn_B10 : teqB (dropT (0, 20, 20, 3) kn_T9) kn_T10 = true := by decide +kernel
theorem kn_O10 : FOk kn_F10 := kstep kn_E10 (fSend_ok kn_O9) kn_B10
theorem kn_R10 {μ : Mem} (h : RepF μ (dropT (0, 20, 20, 3) kn_T9, ([kn_T9, kn_T8, kn_T7, kn_T6, kn_T5, kn_T4], (fun _ => none), []))) : RepF μ kn_F10 := RepF_teq h kn_B10
theorem kn_v20 : fNode 0 0 kn_F10 = 2 := by decide +kernel
theorem kn_v21 : fStone 0 0 1 kn_F10 = 9 := by decide +kernel
theorem kn_v22 : fStone 0 0 2 kn_F10 = 26 := by decide +kernel
theorem kn_v23 : fNode 1 0 kn_F10 = 4 := by decide +kernel
theorem kn_v24 : fStone 1 0 0 kn_F10 = 2 := by decide +kernel
theorem kn_v25 : fStone 1 1 2 kn_F10 = 8 := by decide +kernel
theorem kn_v26 : fStone 1 2 3 kn_F10 = 9 := by decide +kernel
theorem kn_v27 : fCount 2 kn_F10 = 4 := by decide +kernel
theorem kn_v28 : fNode 0 3 kn_F10 = 1 := by decide +kernel
theorem kn_v29 : fNode 0 4 kn_F10 = 4 := by decide +kernel
theorem kn_v30 : fHeavy 0 kn_F10 = 3 := by decide +kernel
theorem kn_v31 : fHeavy 1 kn_F10 = 5 := by decide +kernel
theorem kn_v32 : fWould 5 kn_F10 = 0 := by decide +kernel
theorem kn_v33 : fKey 5 2 kn_F10 = 3 := by decide +kernel
theorem kn_v34 : fKey 5 3 kn_F10 = 1 := by decide +kernel
theorem kn_v35 : fKey 5 1 kn_F10 = 9 := by decide +kernel
theorem kn_v36 : fSum 0 26 kn_F10 = 13 := by decide +kernel
theorem kn_v37 : fCount 5 kn_F10 = 3 := by decide +kernel
def kn_T11 : TS := (4, 1, 8, 6, mkW [([(1, 9, 26, 1), (0, 20, 20, 3)], 1, 4, 3), ([], 3, 6, 0), ([], 0, 0, 0), ([], 0, 0, 0), ([(1, 0, 2, 1)], 0, 0, 0), ([(2, 5, 5, 0), (1, 3, 5, 1), (0, 5, 5, 9)], 0, 0, 0), ([(1, 6, 8, 1), (0, 6, 6, 1)], 0, 0, 0), ([], 0, 0, 0), ([], 0, 0, 0), ([], 0, 0, 0), ([], 0, 0, 0), ([], 0, 0, 0), ([], 0, 0, 0)] [none, none, none, none, none, none, none, none, none, none, none, none, none, none, none, none, none, none, none, none, none, none, none, none, none, none, none] 0)
def kn_F11 : FS := (kn_T11, [kn_T10, kn_T9, kn_T8, kn_T7, kn_T6, kn_T5], (fun _ => none), [])
theorem kn_E11 : fEmpty 1 kn_F10 = (8, setW kn_T10 (empN kn_T10.1 kn_T10.2.1 1 kn_T10.2.2.2.2), ([kn_T10, kn_T9, kn_T8, kn_T7, kn_T6, kn_T5], (fun _ => none), [])) := fEmpty_v (n := 1) (F := kn_F10) (by decide) (by decide +kernel)
theorem kn_B11 : teqB (setW kn_T10 (empN kn_T10.1 kn_T10.2.1 1 kn_T10.2.2.2.2)) kn_T11 = true := by decide +kernel
theorem kn_O11 : FOk kn_F11 := kstep kn_E11 (fEmpty_ok kn_O10) kn_B11
theorem kn_R11 {μ : Mem} (h : RepF μ (setW kn_T10 (empN kn_T10.1 kn_T10.2.1 1 kn_T10.2.2.2.2), ([kn_T10, kn_T9, kn_T8, kn_T7, kn_T6, kn_T5], (fun _ => none), []))) : RepF μ kn_F11 := RepF_teq h kn_B11
theorem kn_v38 : fNode 1 3 kn_F11 = 3 := by decide +kernel
theorem kn_v39 : fNode 1 4 kn_F11 = 6 := by decide +kernel
theorem kn_v40 : fCount 2 kn_F11 = 10 := by decide +kernel
theorem kn_v41 : fNode 5 0 kn_F11 = 3 := by decide +kernel
theorem kn_v42 : fHeavy 5 kn_F11 = 5 := by decide +kernel
theorem kn_v43 : fHeavy 1 kn_F11 = (-6) := by decide +kernel
def kn_T12 : TS := (4, 1, 8, 6, mkW [([(1, 9, 26, 1), (0, 20, 20, 3)], 1, 4, 3), ([], 3, 6, 0), ([], 0, 0, 0), ([], 0, 0, 0), ([(1, 0, 2, 1)], 0, 0, 0), ([], 3, 5, 0), ([(1, 6, 8, 1), (0, 6, 6, 1)], 0, 0, 0), ([], 0, 0, 0), ([], 0, 0, 0), ([], 0, 0, 0), ([], 0, 0, 0), ([], 0, 0, 0), ([], 0, 0, 0)] [none, none, none, none, none, some 9, none, none, none, none, none, none, none, none, none, none, none, none, none, none, none, none, none, none, none, none, none] 5)
def kn_F12 : FS := (kn_T12, [kn_T11, kn_T10, kn_T9, kn_T8, kn_T7, kn_T6], (fun _ => none), [])
theorem kn_E12 : fEmpty 5 kn_F11 = (5, setW kn_T11 (empN kn_T11.1 kn_T11.2.1 5 kn_T11.2.2.2.2), ([kn_T11, kn_T10, kn_T9, kn_T8, kn_T7, kn_T6], (fun _ => none), [])) := fEmpty_v (n := 5) (F := kn_F11) (by decide) (by decide +kernel)
theorem kn_B12 : teqB (setW kn_T11 (empN kn_T11.1 kn_T11.2.1 5 kn_T11.2.2.2.2)) kn_T12 = true := by decide +kernel
theorem kn_O12 : FOk kn_F12 := kstep kn_E12 (fEmpty_ok kn_O11) kn_B12
theorem kn_R12 {μ : Mem} (h : RepF μ (setW kn_T11 (empN kn_T11.1 kn_T11.2.1 5 kn_T11.2.2.2.2), ([kn_T11, kn_T10, kn_T9, kn_T8, kn_T7, kn_T6], (fun _ => none), []))) : RepF μ kn_F12 := RepF_teq h kn_B12
theorem kn_v44 : fCount 2 kn_F12 = 15 := by decide +kernel
theorem kn_v45 : fCount 3 kn_F12 = 5 := by decide +kernel
theorem kn_v46 : fKey 5 0 kn_F12 = 9 := by decide +kernel
theorem kn_v47 : fKey 5 3 kn_F12 = (-6) := by decide +kernel
theorem kn_v48 : fKey 4 0 kn_F12 = (-6) := by decide +kernel
theorem kn_v49 : fToE kn_F12 = 36 := by decide +kernel
theorem kn_v50 : fCount 7 kn_F12 = 6 := by decide +kernel
def kn_F13 : FS := (kn_T11, [kn_T10, kn_T9, kn_T8, kn_T7, kn_T6], (fun _ => none), [])
theorem kn_E13 : fUndo kn_F12 = (5, kn_F13) := fUndo_v _ _ _ _
theorem kn_O13 : FOk kn_F13 := kstep2 kn_E13 (fUndo_ok kn_O12)
theorem kn_v51 : fCount 0 kn_F13 = 8 := by decide +kernel
def kn_F14 : FS := (kn_T10, [kn_T9, kn_T8, kn_T7, kn_T6], (fun _ => none), [])
theorem kn_E14 : fUndo kn_F13 = (4, kn_F14) := fUndo_v _ _ _ _
theorem kn_O14 : FOk kn_F14 := kstep2 kn_E14 (fUndo_ok kn_O13)
theorem kn_v52 : fNode 1 0 kn_F14 = 4 := by decide +kernel
def pc_T1 : TS := (1, 1, 0, 0, mkW [([], 0, 0, 0), ([], 0, 0, 0), ([], 0, 0, 0), ([], 0, 0, 0), ([], 0, 0, 0), ([], 0, 0, 0), ([], 0, 0, 0), ([], 0, 0, 0), ([], 0, 0, 0), ([], 0, 0, 0), ([], 0, 0, 0), ([], 0, 0, 0), ([], 0, 0, 0)] [none, none, none, none, none, none, none, none, none, none, none, none, none, none, none, none, none, none, none, none, none, none, none, none, none, none, none] 0)
def pc_F1 : FS := (pc_T1, [t00], (fun _ => none), [])
theorem pc_E1 : fSet 0 1 F00 = (4, (1, t00.2), ([t00], (fun _ => none), [])) := fSet_0 (v := 1) (F := F00) (by decide) (by decide)
theorem pc_B1 : teqB ((1, t00.2)) pc_T1 = true := by decide +kernel
theorem pc_O1 : FOk pc_F1 := kstep pc_E1 (fSet_ok F00_ok) pc_B1
theorem pc_R1 {μ : Mem} (h : RepF μ ((1, t00.2), ([t00], (fun _ => none), []))) : RepF μ pc_F1 := RepF_teq h pc_B1
def pc_T2 : TS := (1, 1, 1, 0, mkW [([(1, 0, 26, 5)], 0, 0, 0), ([], 0, 0, 0), ([], 0, 0, 0), ([], 0, 0, 0), ([], 0, 0, 0), ([], 0, 0, 0), ([], 0, 0, 0), ([], 0, 0, 0), ([], 0, 0, 0), ([], 0, 0, 0), ([], 0, 0, 0), ([], 0, 0, 0), ([], 0, 0, 0)] [none, none, none, none, none, none, none, none, none, none, none, none, none, none, none, none, none, none, none, none, none, none, none, none, none, none, none] 0)
def pc_F2 : FS := (pc_T2, [pc_T1, t00], (fun _ => none), [])
theorem pc_E2 : fSend 1 0 26 5 pc_F1 = (1, dropT (1, 0, 26, 5) pc_T1, ([pc_T1, t00], (fun _ => none), [])) := fSend_v (K := 1) (f := 0) (l := 26) (N := 5) (F := pc_F1) (by decide) (by decide) (by decide) (by decide) (by decide) (by decide +kernel)
theorem pc_B2 : teqB (dropT (1, 0, 26, 5) pc_T1) pc_T2 = true := by decide +kernel
theorem pc_O2 : FOk pc_F2 := kstep pc_E2 (fSend_ok pc_O1) pc_B2
theorem pc_R2 {μ : Mem} (h : RepF μ (dropT (1, 0, 26, 5) pc_T1, ([pc_T1, t00], (fun _ => none), []))) : RepF μ pc_F2 := RepF_teq h pc_B2
theorem pc_v0 : fWould 0 pc_F2 = 6 := by decide +kernel
theorem pc_v1 : fWould 1 pc_F2 = 7 := by decide +kernel
theorem pc_v2 : fWould 4 pc_F2 = 8 := by decide +kernel
theorem pc_v3 : fWould 10 pc_F2 = 8 := by decide +kernel
theorem pc_v4 : fWorst 0 pc_F2 = 13 := by decide +kernel
theorem pc_v5 : fWorst 1 pc_F2 = 9 := by decide +kernel
def pc_F3 : FS := (pc_T2, [pc_T1, t00], (up (fun _ => none) 1 (some pc_T2)), [])
theorem pc_E3 : fSave 1 pc_F2 = (1, pc_F3) := fSave_v (i := 1) (F := pc_F2) (by decide) (by decide +kernel)
theorem pc_O3 : FOk pc_F3 := kstep2 pc_E3 (fSave_ok pc_O2)
def pc_T3 : TS := (1, 1, 2, 0, mkW [([(1, 18, 26, 5)], 2, 3, 0), ([(1, 0, 8, 5)], 0, 0, 0), ([(1, 12, 17, 5)], 1, 2, 0), ([], 0, 0, 0), ([], 0, 0, 0), ([], 0, 0, 0), ([], 0, 0, 0), ([(1, 11, 11, 5)], 2, 3, 0), ([], 0, 0, 0), ([], 0, 0, 0), ([], 0, 0, 0), ([], 0, 0, 0), ([], 0, 0, 0)] [none, none, none, none, none, none, none, none, none, none, some 7, none, none, none, none, none, none, none, none, none, none, none, none, none, none, none, none] 3)
def pc_F4 : FS := (pc_T3, [pc_T2, pc_T1, t00], (up (fun _ => none) 1 (some pc_T2)), [])
theorem pc_E4 : fSend 0 10 10 7 pc_F3 = (4, dropT (0, 10, 10, 7) pc_T2, ([pc_T2, pc_T1, t00], (up (fun _ => none) 1 (some pc_T2)), [])) := fSend_v (K := 0) (f := 10) (l := 10) (N := 7) (F := pc_F3) (by decide) (by decide) (by decide) (by decide) (by decide) (by decide +kernel)
theorem pc_B4 : teqB (dropT (0, 10, 10, 7) pc_T2) pc_T3 = true := by decide +kernel
theorem pc_O4 : FOk pc_F4 := kstep pc_E4 (fSend_ok pc_O3) pc_B4
theorem pc_R4 {μ : Mem} (h : RepF μ (dropT (0, 10, 10, 7) pc_T2, ([pc_T2, pc_T1, t00], (up (fun _ => none) 1 (some pc_T2)), []))) : RepF μ pc_F4 := RepF_teq h pc_B4
theorem pc_v6 : fCount 2 pc_F4 = 8 := by decide +kernel
theorem pc_v7 : fCount 3 pc_F4 = 3 := by decide +kernel
theorem pc_v8 : fKey 10 0 pc_F4 = 7 := by decide +kernel
theorem pc_v9 : fNode 0 3 pc_F4 = 2 := by decide +kernel
theorem pc_v10 : fNode 0 4 pc_F4 = 3 := by decide +kernel
theorem pc_v11 : fNode 2 3 pc_F4 = 1 := by decide +kernel
theorem pc_v12 : fNode 7 3 pc_F4 = 2 := by decide +kernel
theorem pc_v13 : fStone 0 0 1 pc_F4 = 18 := by decide +kernel
theorem pc_v14 : fStone 1 0 2 pc_F4 = 8 := by decide +kernel
theorem pc_v15 : fStone 2 0 1 pc_F4 = 12 := by decide +kernel
theorem pc_v16 : fStone 2 0 2 pc_F4 = 17 := by decide +kernel
theorem pc_v17 : fStone 7 0 1 pc_F4 = 11 := by decide +kernel
theorem pc_v18 : fStone 7 0 2 pc_F4 = 11 := by decide +kernel
def pc_F5 : FS := (pc_T2, [pc_T3, pc_T2, pc_T1, t00], (up (fun _ => none) 1 (some pc_T2)), [])
theorem pc_E5 : fRest 1 pc_F4 = (1, pc_F5) := fRest_v (i := 1) (t := pc_T2) (F := pc_F4) (by decide) rfl (by decide +kernel)
theorem pc_O5 : FOk pc_F5 := kstep2 pc_E5 (fRest_ok pc_O4)
theorem pc_v19 : fCount 2 pc_F5 = 0 := by decide +kernel
def pc_T4 : TS := (10, 1, 1, 0, mkW [([(1, 0, 26, 5)], 0, 0, 0), ([], 0, 0, 0), ([], 0, 0, 0), ([], 0, 0, 0), ([], 0, 0, 0), ([], 0, 0, 0), ([], 0, 0, 0), ([], 0, 0, 0), ([], 0, 0, 0), ([], 0, 0, 0), ([], 0, 0, 0), ([], 0, 0, 0), ([], 0, 0, 0)] [none, none, none, none, none, none, none, none, none, none, none, none, none, none, none, none, none, none, none, none, none, none, none, none, none, none, none] 0)
def pc_F6 : FS := (pc_T4, [pc_T2, pc_T3, pc_T2, pc_T1, t00], (up (fun _ => none) 1 (some pc_T2)), [])
theorem pc_E6 : fSet 0 10 pc_F5 = (1, (10, pc_T2.2), ([pc_T2, pc_T3, pc_T2, pc_T1, t00], (up (fun _ => none) 1 (some pc_T2)), [])) := fSet_0 (v := 10) (F := pc_F5) (by decide) (by decide)
theorem pc_B6 : teqB ((10, pc_T2.2)) pc_T4 = true := by decide +kernel
theorem pc_O6 : FOk pc_F6 := kstep pc_E6 (fSet_ok pc_O5) pc_B6
theorem pc_R6 {μ : Mem} (h : RepF μ ((10, pc_T2.2), ([pc_T2, pc_T3, pc_T2, pc_T1, t00], (up (fun _ => none) 1 (some pc_T2)), []))) : RepF μ pc_F6 := RepF_teq h pc_B6
def pc_T5 : TS := (10, 0, 1, 0, mkW [([(1, 0, 26, 5)], 0, 0, 0), ([], 0, 0, 0), ([], 0, 0, 0), ([], 0, 0, 0), ([], 0, 0, 0), ([], 0, 0, 0), ([], 0, 0, 0), ([], 0, 0, 0), ([], 0, 0, 0), ([], 0, 0, 0), ([], 0, 0, 0), ([], 0, 0, 0), ([], 0, 0, 0)] [none, none, none, none, none, none, none, none, none, none, none, none, none, none, none, none, none, none, none, none, none, none, none, none, none, none, none] 0)
def pc_F7 : FS := (pc_T5, [pc_T4, pc_T2, pc_T3, pc_T2, pc_T1, t00], (up (fun _ => none) 1 (some pc_T2)), [])
theorem pc_E7 : fSet 1 0 pc_F6 = (1, (pc_T4.1, 0, pc_T4.2.2), ([pc_T4, pc_T2, pc_T3, pc_T2, pc_T1, t00], (up (fun _ => none) 1 (some pc_T2)), [])) := fSet_1 (v := 0) (F := pc_F6) (by decide)
theorem pc_B7 : teqB ((pc_T4.1, 0, pc_T4.2.2)) pc_T5 = true := by decide +kernel
theorem pc_O7 : FOk pc_F7 := kstep pc_E7 (fSet_ok pc_O6) pc_B7
theorem pc_R7 {μ : Mem} (h : RepF μ ((pc_T4.1, 0, pc_T4.2.2), ([pc_T4, pc_T2, pc_T3, pc_T2, pc_T1, t00], (up (fun _ => none) 1 (some pc_T2)), []))) : RepF μ pc_F7 := RepF_teq h pc_B7
def pc_T6 : TS := (10, 0, 2, 0, mkW [([(1, 0, 26, 5), (0, 3, 3, 1)], 0, 0, 0), ([], 0, 0, 0), ([], 0, 0, 0), ([], 0, 0, 0), ([], 0, 0, 0), ([], 0, 0, 0), ([], 0, 0, 0), ([], 0, 0, 0), ([], 0, 0, 0), ([], 0, 0, 0), ([], 0, 0, 0), ([], 0, 0, 0), ([], 0, 0, 0)] [none, none, none, none, none, none, none, none, none, none, none, none, none, none, none, none, none, none, none, none, none, none, none, none, none, none, none] 0)
def pc_F8 : FS := (pc_T6, [pc_T5, pc_T4, pc_T2, pc_T3, pc_T2, pc_T1], (up (fun _ => none) 1 (some pc_T2)), [])
theorem pc_E8 : fSend 0 3 3 1 pc_F7 = (2, dropT (0, 3, 3, 1) pc_T5, ([pc_T5, pc_T4, pc_T2, pc_T3, pc_T2, pc_T1], (up (fun _ => none) 1 (some pc_T2)), [])) := fSend_v (K := 0) (f := 3) (l := 3) (N := 1) (F := pc_F7) (by decide) (by decide) (by decide) (by decide) (by decide) (by decide +kernel)
theorem pc_B8 : teqB (dropT (0, 3, 3, 1) pc_T5) pc_T6 = true := by decide +kernel
theorem pc_O8 : FOk pc_F8 := kstep pc_E8 (fSend_ok pc_O7) pc_B8
theorem pc_R8 {μ : Mem} (h : RepF μ (dropT (0, 3, 3, 1) pc_T5, ([pc_T5, pc_T4, pc_T2, pc_T3, pc_T2, pc_T1], (up (fun _ => none) 1 (some pc_T2)), []))) : RepF μ pc_F8 := RepF_teq h pc_B8
def pc_T7 : TS := (10, 0, 3, 0, mkW [([(1, 0, 26, 5), (0, 3, 3, 1), (0, 3, 3, 2)], 0, 0, 0), ([], 0, 0, 0), ([], 0, 0, 0), ([], 0, 0, 0), ([], 0, 0, 0), ([], 0, 0, 0), ([], 0, 0, 0), ([], 0, 0, 0), ([], 0, 0, 0), ([], 0, 0, 0), ([], 0, 0, 0), ([], 0, 0, 0), ([], 0, 0, 0)] [none, none, none, none, none, none, none, none, none, none, none, none, none, none, none, none, none, none, none, none, none, none, none, none, none, none, none] 0)
def pc_F9 : FS := (pc_T7, [pc_T6, pc_T5, pc_T4, pc_T2, pc_T3, pc_T2], (up (fun _ => none) 1 (some pc_T2)), [])
theorem pc_E9 : fSend 0 3 3 2 pc_F8 = (3, dropT (0, 3, 3, 2) pc_T6, ([pc_T6, pc_T5, pc_T4, pc_T2, pc_T3, pc_T2], (up (fun _ => none) 1 (some pc_T2)), [])) := fSend_v (K := 0) (f := 3) (l := 3) (N := 2) (F := pc_F8) (by decide) (by decide) (by decide) (by decide) (by decide) (by decide +kernel)
theorem pc_B9 : teqB (dropT (0, 3, 3, 2) pc_T6) pc_T7 = true := by decide +kernel
theorem pc_O9 : FOk pc_F9 := kstep pc_E9 (fSend_ok pc_O8) pc_B9
theorem pc_R9 {μ : Mem} (h : RepF μ (dropT (0, 3, 3, 2) pc_T6, ([pc_T6, pc_T5, pc_T4, pc_T2, pc_T3, pc_T2], (up (fun _ => none) 1 (some pc_T2)), []))) : RepF μ pc_F9 := RepF_teq h pc_B9
def pc_T8 : TS := (10, 0, 4, 0, mkW [([(1, 0, 26, 5), (0, 3, 3, 1), (0, 3, 3, 2), (1, 3, 3, 999)], 0, 0, 0), ([], 0, 0, 0), ([], 0, 0, 0), ([], 0, 0, 0), ([], 0, 0, 0), ([], 0, 0, 0), ([], 0, 0, 0), ([], 0, 0, 0), ([], 0, 0, 0), ([], 0, 0, 0), ([], 0, 0, 0), ([], 0, 0, 0), ([], 0, 0, 0)] [none, none, none, none, none, none, none, none, none, none, none, none, none, none, none, none, none, none, none, none, none, none, none, none, none, none, none] 0)
def pc_F10 : FS := (pc_T8, [pc_T7, pc_T6, pc_T5, pc_T4, pc_T2, pc_T3], (up (fun _ => none) 1 (some pc_T2)), [])
theorem pc_E10 : fSend 1 3 3 999 pc_F9 = (4, dropT (1, 3, 3, 999) pc_T7, ([pc_T7, pc_T6, pc_T5, pc_T4, pc_T2, pc_T3], (up (fun _ => none) 1 (some pc_T2)), [])) := fSend_v (K := 1) (f := 3) (l := 3) (N := 999) (F := pc_F9) (by decide) (by decide) (by decide) (by decide) (by decide) (by decide +kernel)
theorem pc_B10 : teqB (dropT (1, 3, 3, 999) pc_T7) pc_T8 = true := by decide +kernel
theorem pc_O10 : FOk pc_F10 := kstep pc_E10 (fSend_ok pc_O9) pc_B10
theorem pc_R10 {μ : Mem} (h : RepF μ (dropT (1, 3, 3, 999) pc_T7, ([pc_T7, pc_T6, pc_T5, pc_T4, pc_T2, pc_T3], (up (fun _ => none) 1 (some pc_T2)), []))) : RepF μ pc_F10 := RepF_teq h pc_B10
theorem pc_v20 : fNode 0 5 pc_F10 = 0 := by decide +kernel
theorem pc_v21 : fKey 3 1 pc_F10 = 1 := by decide +kernel
theorem pc_v22 : fKey 3 2 pc_F10 = 4 := by decide +kernel
def pc_T9 : TS := (10, 1, 4, 0, mkW [([(1, 0, 26, 5), (0, 3, 3, 1), (0, 3, 3, 2), (1, 3, 3, 999)], 0, 0, 0), ([], 0, 0, 0), ([], 0, 0, 0), ([], 0, 0, 0), ([], 0, 0, 0), ([], 0, 0, 0), ([], 0, 0, 0), ([], 0, 0, 0), ([], 0, 0, 0), ([], 0, 0, 0), ([], 0, 0, 0), ([], 0, 0, 0), ([], 0, 0, 0)] [none, none, none, none, none, none, none, none, none, none, none, none, none, none, none, none, none, none, none, none, none, none, none, none, none, none, none] 0)
def pc_F11 : FS := (pc_T9, [pc_T8, pc_T7, pc_T6, pc_T5, pc_T4, pc_T2], (up (fun _ => none) 1 (some pc_T2)), [])
theorem pc_E11 : fSet 1 1 pc_F10 = (0, (pc_T8.1, 1, pc_T8.2.2), ([pc_T8, pc_T7, pc_T6, pc_T5, pc_T4, pc_T2], (up (fun _ => none) 1 (some pc_T2)), [])) := fSet_1 (v := 1) (F := pc_F10) (by decide)
theorem pc_B11 : teqB ((pc_T8.1, 1, pc_T8.2.2)) pc_T9 = true := by decide +kernel
theorem pc_O11 : FOk pc_F11 := kstep pc_E11 (fSet_ok pc_O10) pc_B11
theorem pc_R11 {μ : Mem} (h : RepF μ ((pc_T8.1, 1, pc_T8.2.2), ([pc_T8, pc_T7, pc_T6, pc_T5, pc_T4, pc_T2], (up (fun _ => none) 1 (some pc_T2)), []))) : RepF μ pc_F11 := RepF_teq h pc_B11
def pc_T10 : TS := (10, 1, 5, 0, mkW [([(1, 0, 26, 5), (0, 3, 3, 1), (0, 3, 3, 2), (2, 3, 3, 0)], 0, 0, 1), ([], 0, 0, 0), ([], 0, 0, 0), ([], 0, 0, 0), ([], 0, 0, 0), ([], 0, 0, 0), ([], 0, 0, 0), ([], 0, 0, 0), ([], 0, 0, 0), ([], 0, 0, 0), ([], 0, 0, 0), ([], 0, 0, 0), ([], 0, 0, 0)] [none, none, none, none, none, none, none, none, none, none, none, none, none, none, none, none, none, none, none, none, none, none, none, none, none, none, none] 0)
def pc_F12 : FS := (pc_T10, [pc_T9, pc_T8, pc_T7, pc_T6, pc_T5, pc_T4], (up (fun _ => none) 1 (some pc_T2)), [])
theorem pc_E12 : fSend 2 3 3 0 pc_F11 = (4, dropT (2, 3, 3, 0) pc_T9, ([pc_T9, pc_T8, pc_T7, pc_T6, pc_T5, pc_T4], (up (fun _ => none) 1 (some pc_T2)), [])) := fSend_v (K := 2) (f := 3) (l := 3) (N := 0) (F := pc_F11) (by decide) (by decide) (by decide) (by decide) (by decide) (by decide +kernel)
theorem pc_B12 : teqB (dropT (2, 3, 3, 0) pc_T9) pc_T10 = true := by decide +kernel
theorem pc_O12 : FOk pc_F12 := kstep pc_E12 (fSend_ok pc_O11) pc_B12
theorem pc_R12 {μ : Mem} (h : RepF μ (dropT (2, 3, 3, 0) pc_T9, ([pc_T9, pc_T8, pc_T7, pc_T6, pc_T5, pc_T4], (up (fun _ => none) 1 (some pc_T2)), []))) : RepF μ pc_F12 := RepF_teq h pc_B12
theorem pc_v23 : fStone 0 3 0 pc_F12 = 2 := by decide +kernel
theorem pc_v24 : fStone 0 2 3 pc_F12 = 2 := by decide +kernel
def pc_T11 : TS := (2, 1, 5, 0, mkW [([(1, 0, 26, 5), (0, 3, 3, 1), (0, 3, 3, 2), (2, 3, 3, 0)], 0, 0, 1), ([], 0, 0, 0), ([], 0, 0, 0), ([], 0, 0, 0), ([], 0, 0, 0), ([], 0, 0, 0), ([], 0, 0, 0), ([], 0, 0, 0), ([], 0, 0, 0), ([], 0, 0, 0), ([], 0, 0, 0), ([], 0, 0, 0), ([], 0, 0, 0)] [none, none, none, none, none, none, none, none, none, none, none, none, none, none, none, none, none, none, none, none, none, none, none, none, none, none, none] 0)
def pc_F13 : FS := (pc_T11, [pc_T10, pc_T9, pc_T8, pc_T7, pc_T6, pc_T5], (up (fun _ => none) 1 (some pc_T2)), [])
theorem pc_E13 : fSet 0 2 pc_F12 = (10, (2, pc_T10.2), ([pc_T10, pc_T9, pc_T8, pc_T7, pc_T6, pc_T5], (up (fun _ => none) 1 (some pc_T2)), [])) := fSet_0 (v := 2) (F := pc_F12) (by decide) (by decide)
theorem pc_B13 : teqB ((2, pc_T10.2)) pc_T11 = true := by decide +kernel
theorem pc_O13 : FOk pc_F13 := kstep pc_E13 (fSet_ok pc_O12) pc_B13
theorem pc_R13 {μ : Mem} (h : RepF μ ((2, pc_T10.2), ([pc_T10, pc_T9, pc_T8, pc_T7, pc_T6, pc_T5], (up (fun _ => none) 1 (some pc_T2)), []))) : RepF μ pc_F13 := RepF_teq h pc_B13
theorem pc_v25 : fCount 0 pc_F13 = 4 := by decide +kernel
def pc_T12 : TS := (2, 1, 6, 0, mkW [([(1, 9, 26, 5)], 1, 5, 1), ([(1, 3, 8, 5), (2, 3, 3, 0)], 1, 2, 2), ([], 0, 0, 0), ([], 0, 0, 0), ([(1, 0, 2, 5), (1, 0, 2, 1)], 0, 0, 0), ([], 0, 0, 0), ([], 0, 0, 0), ([], 0, 0, 0), ([], 0, 0, 0), ([], 0, 0, 0), ([], 0, 0, 0), ([], 0, 0, 0), ([], 0, 0, 0)] [none, none, none, none, none, none, none, none, none, none, none, none, none, none, none, none, none, none, none, none, none, none, none, none, none, none, none] 0)
def pc_F14 : FS := (pc_T12, [pc_T11, pc_T10, pc_T9, pc_T8, pc_T7, pc_T6], (up (fun _ => none) 1 (some pc_T2)), [])
theorem pc_E14 : fSend 1 0 2 1 pc_F13 = (5, dropT (1, 0, 2, 1) pc_T11, ([pc_T11, pc_T10, pc_T9, pc_T8, pc_T7, pc_T6], (up (fun _ => none) 1 (some pc_T2)), [])) := fSend_v (K := 1) (f := 0) (l := 2) (N := 1) (F := pc_F13) (by decide) (by decide) (by decide) (by decide) (by decide) (by decide +kernel)
theorem pc_B14 : teqB (dropT (1, 0, 2, 1) pc_T11) pc_T12 = true := by decide +kernel
theorem pc_O14 : FOk pc_F14 := kstep pc_E14 (fSend_ok pc_O13) pc_B14
theorem pc_R14 {μ : Mem} (h : RepF μ (dropT (1, 0, 2, 1) pc_T11, ([pc_T11, pc_T10, pc_T9, pc_T8, pc_T7, pc_T6], (up (fun _ => none) 1 (some pc_T2)), []))) : RepF μ pc_F14 := RepF_teq h pc_B14
theorem pc_v26 : fNode 0 0 pc_F14 = 1 := by decide +kernel
theorem pc_v27 : fNode 1 0 pc_F14 = 2 := by decide +kernel
theorem pc_v28 : fNode 1 5 pc_F14 = 2 := by decide +kernel
theorem pc_v29 : fStone 1 0 1 pc_F14 = 3 := by decide +kernel
theorem pc_v30 : fStone 1 0 2 pc_F14 = 8 := by decide +kernel
theorem pc_v31 : fStone 1 1 0 pc_F14 = 2 := by decide +kernel
theorem pc_v32 : fNode 4 0 pc_F14 = 2 := by decide +kernel
theorem pc_v33 : fStone 4 0 3 pc_F14 = 5 := by decide +kernel
theorem pc_v34 : fStone 4 1 3 pc_F14 = 1 := by decide +kernel
