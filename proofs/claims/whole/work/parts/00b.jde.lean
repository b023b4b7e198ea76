def jd_29_s2 (this : Nat) (x1 : Int) (h : jH) : Option (Int ⊕ (Unit ⊕ (Int ⊕ Unit))) :=
  (if 7 ≤ (jw x1) then some (.inr (.inr (.inr ()))) else ((jgi h this 2 6).bind fun v2 => (if (jw x1) < (jw v2) then ((jck h this 2).bind fun u5 => ((jd_30 this x1 h).bind fun v7 => ((jst 5 x1).bind fun v9 => (if (jw v7) < (jw v9) then some (.inr (.inr (.inl x1))) else ((jck h this 2).bind fun u12 => ((jd_30 this x1 h).bind fun v14 => ((jst 6 x1).bind fun v16 => (if (jw v14) ≤ (jw v16) then some (.inl (x1 + 1)) else some (.inr (.inr (.inl x1))))))))))) else some (.inr (.inl ())))))
def jd_29_l2 (this : Nat) (x1 : Int) (h : jH) : Option (Unit ⊕ (Int ⊕ Unit)) :=
  jlp (fun s : Int => jd_29_s2 this s h) jfu x1
def jd_29_s109 (this : Nat) (x1 : Int) (h : jH) : Option ((Int × jH) ⊕ jH) :=
  (if 12 ≤ (jw x1) then some (.inr h) else ((jgr h this 2 12).bind fun r58 => ((r58).bind fun a60 => ((jta h a60 0 x1 (-1)).bind fun h62 => some (.inl ((x1 + 1), h62))))))
def jd_29_l109 (this : Nat) (x1 : Int) (h : jH) : Option jH :=
  jlp (fun s : (Int × jH) => jd_29_s109 this s.1 s.2) jfu (x1, h)
def jd_29_s133 (this : Nat) (x1 : Int) (x2 : Int) (h : jH) : Option ((Int × Int × jH) ⊕ ((Int × jH) ⊕ (Int × jH))) :=
  ((jgi h this 2 4).bind fun v66 => (if (jw v66) ≤ (jw x2) then some (.inr (.inr (x1, h))) else ((jck h this 2).bind fun u69 => ((jd_31 this x2 x1 h).bind fun q71 => (if (jw q71.1) < 0 then ((jgr q71.2 this 2 10).bind fun r74 => ((r74).bind fun a76 => ((jai q71.2 a76 x2).bind fun v78 => some (.inl ((x1 + (5 + v78)), (x2 + 1), q71.2))))) else some (.inr (.inl (q71.1, q71.2))))))))
def jd_29_l133 (this : Nat) (x1 : Int) (x2 : Int) (h : jH) : Option ((Int × jH) ⊕ (Int × jH)) :=
  jlp (fun s : (Int × Int × jH) => jd_29_s133 this s.1 s.2.1 s.2.2) jfu (x1, x2, h)
def jd_29 (this : Nat)  (h : jH) : Option (Int × jH) :=
  ((jd_29_l2 this 0 h).bind fun x19 => jse x19 (fun y21 => ((jgi h this 2 6).bind fun v23 => some (v23, h))) (fun y22 => jse y22 (fun y25 => some (y25, h)) (fun y26 => ((jck h this 2).bind fun u27 => ((jd_30 this 2 h).bind fun v29 => ((jpi h this 2 0 v29).bind fun h31 => ((jck h31 this 2).bind fun u33 => ((jd_30 this 3 h31).bind fun v35 => ((jpi h31 this 2 1 (8 * v35)).bind fun h37 => ((jck h37 this 2).bind fun u39 => ((jd_30 this 4 h37).bind fun v41 => ((jpi h37 this 2 2 (8 * v41)).bind fun h43 => ((jck h43 this 2).bind fun u45 => ((jd_30 this 5 h43).bind fun v47 => ((jpi h43 this 2 3 v47).bind fun h49 => ((jck h49 this 2).bind fun u51 => ((jd_30 this 6 h49).bind fun v53 => ((jpi h49 this 2 4 v53).bind fun h55 => ((jd_29_l109 this 0 h55).bind fun x64 => ((jd_29_l133 this 7 0 x64).bind fun x80 => jse x80 (fun y82 => some (y82.1, y82.2)) (fun y83 => ((jgi y83.2 this 2 6).bind fun v84 => some ((if (jw v84) ≤ (jw y83.1) then (-1) else y83.1), y83.2)))))))))))))))))))))))
def jd_36_b76 (this : Nat) (x1 : Int) (x2 : Int) (y0 : Int) (y1 : Int) (y2 : Option Nat) (h : jH) : Option ((Int × jH) ⊕ jH) :=
  ((y2).bind fun a28 => ((jta h a28 2 y1 y0).bind fun h30 => some (.inl ((x2 + 1), h30))))
def jd_36_s34 (this : Nat) (x1 : Int) (x2 : Int) (h : jH) : Option ((Int × jH) ⊕ jH) :=
  ((jgi h this 2 4).bind fun v16 => (if (jw v16) ≤ (jw x2) then some (.inr h) else ((jgr h this 2 13).bind fun r19 => ((jgr h this 2 13).bind fun r21 => ((r21).bind fun a23 => ((jaz h a23 x1).bind fun v25 => (if (jw v25) = 0 then jd_36_b76 this x1 x2 0 x1 r19 h else ((jgr h this 2 8).bind fun r32 => ((r32).bind fun a34 => ((jai h a34 x2).bind fun v36 => ((jgr h this 2 8).bind fun r38 => ((r38).bind fun a40 => ((jai h a40 x1).bind fun v42 => jd_36_b76 this x1 x2 (if (jw v36) ≤ (jw v42) then 0 else 1) x1 r19 h)))))))))))))
def jd_36_l34 (this : Nat) (x1 : Int) (x2 : Int) (h : jH) : Option jH :=
  jlp (fun s : (Int × jH) => jd_36_s34 this x1 s.1 s.2) jfu (x2, h)
def jd_36_s2 (this : Nat) (x1 : Int) (h : jH) : Option ((Int × jH) ⊕ jH) :=
  ((jgi h this 2 4).bind fun v1 => (if (jw v1) ≤ (jw x1) then some (.inr h) else ((jgr h this 2 13).bind fun r4 => ((jgr h this 2 7).bind fun r6 => ((r6).bind fun a8 => ((jai h a8 x1).bind fun v10 => ((r4).bind fun a12 => ((jta h a12 2 x1 (if (jw v10) = 0 then 1 else 0)).bind fun h14 => ((jd_36_l34 this x1 (x1 + 1) h14).bind fun x46 => some (.inl ((x1 + 1), x46)))))))))))
def jd_36_l2 (this : Nat) (x1 : Int) (h : jH) : Option jH :=
  jlp (fun s : (Int × jH) => jd_36_s2 this s.1 s.2) jfu (x1, h)
def jd_36 (this : Nat)  (h : jH) : Option jH :=
  ((jd_36_l2 this 0 h).bind fun x50 => some x50)
def jd_37_s2 (this : Nat) (x2 : Int) (h : jH) : Option (Int ⊕ (Int ⊕ Unit)) :=
  (if (jw x2) ≤ 0 then some (.inr (.inr ())) else ((jgr h this 2 13).bind fun r2 => ((r2).bind fun a4 => ((jaz h a4 x2).bind fun v6 => (if (jw v6) = 0 then some (.inl (x2 + (-1))) else some (.inr (.inl x2)))))))
def jd_37_l2 (this : Nat) (x2 : Int) (h : jH) : Option (Int ⊕ Unit) :=
  jlp (fun s : Int => jd_37_s2 this s h) jfu x2
def jd_37 (this : Nat) (p0 : Int) (h : jH) : Option Int :=
  ((jd_37_l2 this p0 h).bind fun x9 => jse x9 (fun y11 => some y11) (fun y12 => some 0))
def jd_38_s4 (this : Nat) (x2 : Int) (h : jH) : Option (Int ⊕ (Int ⊕ Unit)) :=
  ((jgi h this 2 4).bind fun v1 => (if (jw v1) ≤ (jw x2) then some (.inr (.inr ())) else ((jgr h this 2 13).bind fun r4 => ((r4).bind fun a6 => ((jaz h a6 x2).bind fun v8 => (if (jw v8) = 0 then some (.inl (x2 + 1)) else some (.inr (.inl x2))))))))
def jd_38_l4 (this : Nat) (x2 : Int) (h : jH) : Option (Int ⊕ Unit) :=
  jlp (fun s : Int => jd_38_s4 this s h) jfu x2
def jd_38 (this : Nat) (p0 : Int) (h : jH) : Option Int :=
  ((jd_38_l4 this (p0 + 1) h).bind fun x11 => jse x11 (fun y13 => some y13) (fun y14 => ((jgi h this 2 4).bind fun v15 => some v15)))
def jd_39_s4 (this : Nat) (x1 : Int) (x2 : Int) (h : jH) : Option ((Int × Int) ⊕ Int) :=
  ((jgi h this 2 4).bind fun v1 => (if (jw v1) ≤ (jw x2) then some (.inr x1) else ((jgr h this 2 13).bind fun r4 => ((r4).bind fun a6 => ((jaz h a6 x2).bind fun v8 => ((some (x1 + (if (jw v8) = 0 then 0 else 1))).bind fun z10 => some (.inl (z10, (x2 + 1)))))))))
def jd_39_l4 (this : Nat) (x1 : Int) (x2 : Int) (h : jH) : Option Int :=
  jlp (fun s : (Int × Int) => jd_39_s4 this s.1 s.2 h) jfu (x1, x2)
def jd_39 (this : Nat)  (h : jH) : Option Int :=
  ((jd_39_l4 this 0 0 h).bind fun x14 => some x14)
def jd_40_s4 (this : Nat) (x1 : Int) (x2 : Int) (h : jH) : Option ((Int × Int) ⊕ Int) :=
  ((jgi h this 2 4).bind fun v1 => (if (jw v1) ≤ (jw x2) then some (.inr x1) else ((jgr h this 2 17).bind fun r4 => ((r4).bind fun a6 => ((jai h a6 x2).bind fun v8 => ((some (x1 + (if (jw v8) < 0 then 0 else 1))).bind fun z10 => some (.inl (z10, (x2 + 1)))))))))
def jd_40_l4 (this : Nat) (x1 : Int) (x2 : Int) (h : jH) : Option Int :=
  jlp (fun s : (Int × Int) => jd_40_s4 this s.1 s.2 h) jfu (x1, x2)
def jd_40 (this : Nat)  (h : jH) : Option Int :=
  ((jd_40_l4 this 0 0 h).bind fun x14 => some x14)
def jd_41 (this : Nat)  (h : jH) : Option Int :=
  ((jgi h this 2 1).bind fun v1 => ((jgi h this 2 2).bind fun v3 => some ((jdiv v1 8) * (jdiv v3 8))))
def jd_42 (this : Nat) (p0 : Int) (h : jH) : Option Int :=
  ((jgr h this 2 11).bind fun r1 => ((r1).bind fun a3 => ((jai h a3 p0).bind fun v5 => ((jgr h this 2 10).bind fun r7 => ((r7).bind fun a9 => ((jai h a9 p0).bind fun v11 => some ((v5 + 5) + v11)))))))
def jd_104 (this : Nat) (p0 : Int) (p1 : Int) (p2 : Int) (h : jH) : Option Int :=
  ((jnz (if (jw p0) = 0 then 8 else 4)).bind fun u1 => ((jgi h this 6 0).bind fun v3 => ((jnz (if (jw p0) = 0 then 8 else 4)).bind fun u5 => some (((jdiv p2 (if (jw p0) = 0 then 8 else 4)) * (jdiv v3 8)) + (jdiv p1 (if (jw p0) = 0 then 8 else 4))))))
def jd_43 (this : Nat) (p0 : Int) (p1 : Int) (p2 : Int) (p3 : Int) (h : jH) : Option Int :=
  ((jgr h this 2 17).bind fun r1 => ((r1).bind fun a3 => ((jai h a3 p0).bind fun v5 => (if 0 ≤ (jw v5) then ((jgr h this 2 15).bind fun r8 => ((r8).bind fun a10 => ((jar h a10 6 p0).bind fun r12 => ((jgi h this 2 0).bind fun v14 => (if (jw v14) = 0 then ((r12).bind fun a17 => ((jck h a17 6).bind fun u19 => ((jd_104 a17 p1 p2 p3 h).bind fun v21 => some (if (jw v21) < (jw v5) then 0 else 1)))) else (if (jw v14) = 1 then some (if (jw p1) < (jw v5) then 0 else 1) else ((r12).bind fun a28 => ((jck h a28 6).bind fun u30 => ((jd_98 a28 p1 h).bind fun v32 => ((r12).bind fun a34 => ((jck h a34 6).bind fun u36 => ((jd_96 a34 p1 h).bind fun v38 => some (if (jw ((v32 + (p3 * v38)) + p2)) < (jw v5) then 0 else 1))))))))))))) else some 0))))
def jd_44 (this : Nat)  (h : jH) : Option jH :=
  ((jna h 0 200).bind fun n1 => ((jpr n1.2 this 3 0 (some n1.1)).bind fun h3 => ((jpi h3 this 3 1 0).bind fun h5 => ((jna h5 0 200).bind fun n7 => ((jpr n7.2 this 3 2 (some n7.1)).bind fun h9 => ((jpr h9 this 3 3 none).bind fun h11 => ((jpi h11 this 3 4 0).bind fun h13 => ((jpi h13 this 3 5 0).bind fun h15 => some h15))))))))
def jd_46_b27 (this : Nat)  (h : jH) : Option jH :=
  some h
def jd_46 (this : Nat) (p0 : Int) (h : jH) : Option jH :=
  ((jgi h this 3 1).bind fun v1 => (if 200 ≤ (jw v1) then jd_46_b27 this  h else ((jgr h this 3 0).bind fun r4 => ((jgi h this 3 1).bind fun v6 => ((jpi h this 3 1 (v6 + 1)).bind fun h8 => ((r4).bind fun a10 => ((jta h8 a10 0 v6 p0).bind fun h12 => jd_46_b27 this  h12)))))))
def jd_47_s0 (this : Nat)  (h : jH) : Option (jH ⊕ jH) :=
  ((jgi h this 3 5).bind fun v1 => ((jgi h this 3 4).bind fun v3 => (if (jw v3) ≤ (jw v1) then some (.inr h) else ((jgr h this 3 3).bind fun r6 => ((jgi h this 3 5).bind fun v8 => ((r6).bind fun a10 => ((jab h a10 v8).bind fun v12 => (if (jw v12) = 32 then ((jgi h this 3 5).bind fun v15 => ((jpi h this 3 5 (v15 + 1)).bind fun h17 => some (.inl h17))) else some (.inr h)))))))))
def jd_47_l0 (this : Nat)  (h : jH) : Option jH :=
  jlp (fun s : jH => jd_47_s0 this  s) jfu h
def jd_47_b62 (this : Nat) (y0 : Int) (h : jH) : Option (Int × jH) :=
  some (y0, h)
def jd_47 (this : Nat)  (h : jH) : Option (Int × jH) :=
  ((jd_47_l0 this  h).bind fun x19 => ((jgi x19 this 3 5).bind fun v21 => ((jgi x19 this 3 4).bind fun v23 => (if (jw v23) ≤ (jw v21) then jd_47_b62 this 0 x19 else ((jgr x19 this 3 3).bind fun r26 => ((jgi x19 this 3 5).bind fun v28 => ((r26).bind fun a30 => ((jab x19 a30 v28).bind fun v32 => jd_47_b62 this v32 x19))))))))
def jd_53_b44 (this : Nat) (y0 : Int) (h : jH) : Option Int :=
  ((jbc y0).bind fun u6 => some y0)
def jd_53_b43 (this : Nat)  (h : jH) : Option Int :=
  jd_53_b44 this 0 h
def jd_53 (this : Nat)  (h : jH) : Option Int :=
  ((jgi h this 3 5).bind fun v1 => ((jgi h this 3 4).bind fun v3 => (if (jw v3) ≤ (jw v1) then jd_53_b43 this  h else ((jgr h this 3 3).bind fun r8 => ((jgi h this 3 5).bind fun v10 => ((r8).bind fun a12 => ((jab h a12 v10).bind fun v14 => (if (jw v14) < 48 then jd_53_b43 this  h else ((jgr h this 3 3).bind fun r17 => ((jgi h this 3 5).bind fun v19 => ((r17).bind fun a21 => ((jab h a21 v19).bind fun v23 => jd_53_b44 this (if 57 < (jw v23) then 0 else 1) h))))))))))))
def jd_52_s4 (this : Nat) (x1 : Int) (x2 : Int) (h : jH) : Option ((Int × Int × jH) ⊕ (Int × jH)) :=
  (if 5 ≤ (jw x2) then some (.inr (x1, h)) else ((jck h this 3).bind fun u2 => ((jd_53 this h).bind fun v4 => (if (jw v4) = 0 then some (.inr (x1, h)) else ((jgr h this 3 3).bind fun r7 => ((jgi h this 3 5).bind fun v9 => ((r7).bind fun a11 => ((jab h a11 v9).bind fun v13 => ((jgi h this 3 5).bind fun v15 => ((jpi h this 3 5 (v15 + 1)).bind fun h17 => some (.inl ((((10 * x1) + v13) - 48), (x2 + 1), h17))))))))))))
def jd_52_l4 (this : Nat) (x1 : Int) (x2 : Int) (h : jH) : Option (Int × jH) :=
  jlp (fun s : (Int × Int × jH) => jd_52_s4 this s.1 s.2.1 s.2.2) jfu (x1, x2, h)
def jd_52 (this : Nat)  (h : jH) : Option (Int × jH) :=
  ((jd_52_l4 this 0 0 h).bind fun x19 => ((jck x19.2 this 3).bind fun u21 => ((jd_46 this (1000 + x19.1) x19.2).bind fun h23 => ((jck h23 this 3).bind fun u25 => ((jd_53 this h23).bind fun v27 => some ((if (jw v27) = 0 then 1 else 0), h23))))))
def jd_54 (F : jFR) (this : Nat) (p0 : Int) (h : jH) : Option (Int × jH) :=
  (if (jw p0) < 12 then ((jgi h this 3 5).bind fun v2 => ((jpi h this 3 5 (v2 + 1)).bind fun h4 => ((jck h4 this 3).bind fun u6 => ((F 51 this (p0 + 1) 0 h4).bind fun q8 => ((jck q8.2 this 3).bind fun u10 => ((jd_46 this 126 q8.2).bind fun h12 => ((jbc q8.1).bind fun u14 => some (q8.1, h12)))))))) else some (0, h))
def jd_48 (this : Nat) (p0 : Int) (h : jH) : Option (Int × jH) :=
  ((jck h this 3).bind fun u1 => ((jd_47 this h).bind fun q3 => (if (jw q3.1) = (jw p0) then ((jgi q3.2 this 3 5).bind fun v6 => ((jpi q3.2 this 3 5 (v6 + 1)).bind fun h8 => some (1, h8))) else some (0, q3.2))))
def jd_55_b49 (F : jFR) (this : Nat) (x1 : Int) (x2 : Int) (x3 : Int) (h : jH) : Option ((Int × jH) ⊕ (jH ⊕ (jH ⊕ jH))) :=
  ((jck h this 3).bind fun u13 => ((F 49 this (x1 + 1) 0 h).bind fun q15 => (if (jw q15.1) = 0 then some (.inr (.inr (.inl q15.2))) else some (.inl ((x3 + 1), q15.2)))))
def jd_55_s29 (F : jFR) (this : Nat) (x1 : Int) (x2 : Int) (x3 : Int) (h : jH) : Option ((Int × jH) ⊕ (jH ⊕ (jH ⊕ jH))) :=
  (if (jw x2) ≤ (jw x3) then some (.inr (.inr (.inr h))) else (if (jw x3) ≤ 0 then jd_55_b49 F this x1 x2 x3 h else ((jck h this 3).bind fun u18 => ((jd_48 this 44 h).bind fun q20 => (if (jw q20.1) = 0 then some (.inr (.inl q20.2)) else jd_55_b49 F this x1 x2 x3 q20.2)))))
def jd_55_l29 (F : jFR) (this : Nat) (x1 : Int) (x2 : Int) (x3 : Int) (h : jH) : Option (jH ⊕ (jH ⊕ jH)) :=
  jlp (fun s : (Int × jH) => jd_55_s29 F this x1 x2 s.1 s.2) jfu (x3, h)
def jd_55_b15 (F : jFR) (this : Nat)  (h : jH) : Option (Int × jH) :=
  some (0, h)
def jd_55 (F : jFR) (this : Nat) (p0 : Int) (p1 : Int) (h : jH) : Option (Int × jH) :=
  ((jck h this 3).bind fun u1 => ((jd_47 this h).bind fun q3 => (if (jw q3.1) = 40 then (if (jw p0) < 12 then ((jgi q3.2 this 3 5).bind fun v7 => ((jpi q3.2 this 3 5 (v7 + 1)).bind fun h9 => ((jd_55_l29 F this p0 p1 0 h9).bind fun x23 => jse x23 (fun y25 => some (0, y25)) (fun y26 => jse y26 (fun y27 => some (0, y27)) (fun y28 => ((jck y28 this 3).bind fun u29 => ((jd_48 this 41 y28).bind fun q31 => ((jbc q31.1).bind fun u33 => some (q31.1, q31.2))))))))) else jd_55_b15 F this  q3.2) else jd_55_b15 F this  q3.2)))
def jd_51_b166 (F : jFR) (this : Nat) (x1 : Int) (x2 : Int) (h : jH) : Option (Int × jH) :=
  ((jgi h this 3 5).bind fun v21 => ((jpi h this 3 5 (v21 + 1)).bind fun h23 => ((jck h23 this 3).bind fun u25 => ((F 55 this x1 (if (jw x2) = 105 then 3 else 2) h23).bind fun q27 => ((jck q27.2 this 3).bind fun u29 => ((jd_46 this x2 q27.2).bind fun h31 => ((jbc q27.1).bind fun u33 => some (q27.1, h31))))))))
def jd_51_b136 (F : jFR) (this : Nat) (x2 : Int) (h : jH) : Option (Int × jH) :=
  ((jgi h this 3 5).bind fun v39 => ((jpi h this 3 5 (v39 + 1)).bind fun h41 => ((jck h41 this 3).bind fun u43 => ((jd_46 this x2 h41).bind fun h45 => some (1, h45)))))
def jd_51_b22 (F : jFR) (this : Nat) (x1 : Int) (x2 : Int) (h : jH) : Option (Int × jH) :=
  (if (jw x2) = 40 then ((jck h this 3).bind fun u7 => ((F 55 this x1 1 h).bind fun q9 => ((jbc q9.1).bind fun u11 => some (q9.1, q9.2)))) else (if (jw x2) = 45 then ((jck h this 3).bind fun u14 => ((F 54 this x1 0 h).bind fun q16 => ((jbc q16.1).bind fun u18 => some (q16.1, q16.2)))) else (if (jw x2) = 77 then jd_51_b166 F this x1 x2 h else (if (jw x2) = 97 then jd_51_b166 F this x1 x2 h else (if (jw x2) = 104 then jd_51_b136 F this x2 h else (if (jw x2) = 105 then jd_51_b166 F this x1 x2 h else (if (jw x2) = 109 then jd_51_b166 F this x1 x2 h else (if (jw x2) = 110 then jd_51_b136 F this x2 h else (if (jw x2) = 115 then jd_51_b136 F this x2 h else (if (jw x2) = 116 then jd_51_b136 F this x2 h else (if (jw x2) = 119 then jd_51_b136 F this x2 h else (if (jw x2) = 120 then jd_51_b136 F this x2 h else (if (jw x2) = 121 then jd_51_b136 F this x2 h else some (0, h))))))))))))))
def jd_51 (F : jFR) (this : Nat) (p0 : Int) (h : jH) : Option (Int × jH) :=
  ((jck h this 3).bind fun u1 => ((jd_47 this h).bind fun q3 => (if (jw q3.1) < 48 then jd_51_b22 F this p0 q3.1 q3.2 else (if 57 < (jw q3.1) then jd_51_b22 F this p0 q3.1 q3.2 else ((jck q3.2 this 3).bind fun u56 => ((jd_52 this q3.2).bind fun q58 => ((jbc q58.1).bind fun u60 => some (q58.1, q58.2))))))))
def jd_50_b48 (F : jFR) (this : Nat) (x1 : Int) (x3 : Int) (x4 : Int) (h : jH) : Option ((Int × Int × jH) ⊕ (jH ⊕ (Int × jH))) :=
  ((jgi h this 3 5).bind fun v12 => ((jpi h this 3 5 (v12 + 1)).bind fun h14 => ((jck h14 this 3).bind fun u16 => ((F 51 this x1 0 h14).bind fun q18 => ((jck q18.2 this 3).bind fun u20 => ((jd_46 this x4 q18.2).bind fun h22 => some (.inl (q18.1, (x3 + 1), h22))))))))
def jd_50_s8 (F : jFR) (this : Nat) (x1 : Int) (x2 : Int) (x3 : Int) (h : jH) : Option ((Int × Int × jH) ⊕ (jH ⊕ (Int × jH))) :=
  (if 200 ≤ (jw x3) then some (.inr (.inr (x2, h))) else (if (jw x2) = 0 then some (.inr (.inr (x2, h))) else ((jck h this 3).bind fun u7 => ((jd_47 this h).bind fun q9 => (if (jw q9.1) = 42 then jd_50_b48 F this x1 x3 q9.1 q9.2 else (if (jw q9.1) = 47 then jd_50_b48 F this x1 x3 q9.1 q9.2 else (if (jw q9.1) = 37 then jd_50_b48 F this x1 x3 q9.1 q9.2 else some (.inr (.inl q9.2)))))))))
def jd_50_l8 (F : jFR) (this : Nat) (x1 : Int) (x2 : Int) (x3 : Int) (h : jH) : Option (jH ⊕ (Int × jH)) :=
  jlp (fun s : (Int × Int × jH) => jd_50_s8 F this x1 s.1 s.2.1 s.2.2) jfu (x2, x3, h)
def jd_50 (F : jFR) (this : Nat) (p0 : Int) (h : jH) : Option (Int × jH) :=
  ((jck h this 3).bind fun u1 => ((F 51 this p0 0 h).bind fun q3 => ((jd_50_l8 F this p0 q3.1 0 q3.2).bind fun x26 => jse x26 (fun y28 => some (1, y28)) (fun y29 => ((jbc y29.1).bind fun u30 => some (y29.1, y29.2))))))
def jd_49_b41 (F : jFR) (this : Nat) (x1 : Int) (x3 : Int) (x4 : Int) (h : jH) : Option ((Int × Int × jH) ⊕ (jH ⊕ (Int × jH))) :=
  ((jgi h this 3 5).bind fun v12 => ((jpi h this 3 5 (v12 + 1)).bind fun h14 => ((jck h14 this 3).bind fun u16 => ((F 50 this x1 0 h14).bind fun q18 => ((jck q18.2 this 3).bind fun u20 => ((jd_46 this x4 q18.2).bind fun h22 => some (.inl (q18.1, (x3 + 1), h22))))))))
def jd_49_s8 (F : jFR) (this : Nat) (x1 : Int) (x2 : Int) (x3 : Int) (h : jH) : Option ((Int × Int × jH) ⊕ (jH ⊕ (Int × jH))) :=
  (if 200 ≤ (jw x3) then some (.inr (.inr (x2, h))) else (if (jw x2) = 0 then some (.inr (.inr (x2, h))) else ((jck h this 3).bind fun u7 => ((jd_47 this h).bind fun q9 => (if (jw q9.1) = 43 then jd_49_b41 F this x1 x3 q9.1 q9.2 else (if (jw q9.1) = 45 then jd_49_b41 F this x1 x3 q9.1 q9.2 else some (.inr (.inl q9.2))))))))
def jd_49_l8 (F : jFR) (this : Nat) (x1 : Int) (x2 : Int) (x3 : Int) (h : jH) : Option (jH ⊕ (Int × jH)) :=
  jlp (fun s : (Int × Int × jH) => jd_49_s8 F this x1 s.1 s.2.1 s.2.2) jfu (x2, x3, h)
def jd_49 (F : jFR) (this : Nat) (p0 : Int) (h : jH) : Option (Int × jH) :=
  ((jck h this 3).bind fun u1 => ((F 50 this p0 0 h).bind fun q3 => ((jd_49_l8 F this p0 q3.1 0 q3.2).bind fun x25 => jse x25 (fun y27 => some (1, y27)) (fun y28 => ((jbc y28.1).bind fun u29 => some (y28.1, y28.2))))))
def jrec : Nat → jFR
  | 0 => fun _ _ _ _ _ => none
  | n + 1 => fun mi this p0 p1 h => if mi = 49 then jd_49 (jrec n) this p0 h else if mi = 50 then jd_50 (jrec n) this p0 h else if mi = 51 then jd_51 (jrec n) this p0 h else if mi = 54 then jd_54 (jrec n) this p0 h else if mi = 55 then jd_55 (jrec n) this p0 p1 h else none
def jd_45_b55 (this : Nat) (y0 : Int) (h : jH) : Option (Int × jH) :=
  some (y0, h)
def jd_45 (this : Nat) (p0 : Option Nat) (p1 : Int) (h : jH) : Option (Int × jH) :=
  ((jpr h this 3 3 p0).bind fun h1 => ((jpi h1 this 3 4 (if jw 200 < jw p1 then 200 else p1)).bind fun h3 => ((jpi h3 this 3 5 0).bind fun h5 => ((jpi h5 this 3 1 0).bind fun h7 => ((jck h7 this 3).bind fun u9 => ((jrec 60 49 this 0 0 h7).bind fun q11 => (if (jw q11.1) = 0 then ((jgi q11.2 this 3 5).bind fun v14 => some (v14, q11.2)) else ((jgi q11.2 this 3 5).bind fun v16 => (if (jw p1) ≤ (jw v16) then jd_45_b55 this (-1) q11.2 else ((jgi q11.2 this 3 5).bind fun v19 => jd_45_b55 this v19 q11.2))))))))))
def jd_57 (p0 : Int) : Int := (if (jw p0) = 104 then 0 else (if (jw p0) = 105 then 3 else (if (jw p0) = 106 then (if (jw p0) < 1000 then 2 else 0) else (if (jw p0) = 107 then (if (jw p0) < 1000 then 2 else 0) else (if (jw p0) = 108 then (if (jw p0) < 1000 then 2 else 0) else (if (jw p0) = 109 then (if (jw p0) < 1000 then 2 else 0) else (if (jw p0) = 110 then 0 else (if (jw p0) = 111 then (if (jw p0) < 1000 then 2 else 0) else (if (jw p0) = 112 then (if (jw p0) < 1000 then 2 else 0) else (if (jw p0) = 113 then (if (jw p0) < 1000 then 2 else 0) else (if (jw p0) = 114 then (if (jw p0) < 1000 then 2 else 0) else (if (jw p0) = 115 then 0 else (if (jw p0) = 116 then 0 else (if (jw p0) = 117 then (if (jw p0) < 1000 then 2 else 0) else (if (jw p0) = 118 then (if (jw p0) < 1000 then 2 else 0) else (if (jw p0) = 119 then 0 else (if (jw p0) = 120 then 0 else (if (jw p0) = 121 then 0 else (if (jw p0) = 122 then (if (jw p0) < 1000 then 2 else 0) else (if (jw p0) = 123 then (if (jw p0) < 1000 then 2 else 0) else (if (jw p0) = 124 then (if (jw p0) < 1000 then 2 else 0) else (if (jw p0) = 125 then (if (jw p0) < 1000 then 2 else 0) else (if (jw p0) = 126 then 1 else (if (jw p0) < 1000 then 2 else 0))))))))))))))))))))))))
def jd_58_b95 (y0 : Int)  : Option Int :=
  some y0
def jd_58_b83 (y0 : Int)  : Option Int :=
  some y0
def jd_58 (p0 : Int) (p1 : Int) (p2 : Int)  : Option Int :=
  (if (jw p0) = 37 then (if (jw p2) = 0 then jd_58_b95 0 else ((jnz p2).bind fun u3 => jd_58_b95 (jrem p1 p2))) else (if (jw p0) = 42 then some (p1 * p2) else (if (jw p0) = 43 then some (p1 + p2) else (if (jw p0) = 45 then some (p1 - p2) else (if (jw p0) = 47 then (if (jw p2) = 0 then jd_58_b83 0 else ((jnz p2).bind fun u10 => jd_58_b83 (jdiv p1 p2))) else (if (jw p0) = 109 then some (if jw p2 < jw p1 then p2 else p1) else some (if jw p1 < jw p2 then p2 else p1)))))))
def jd_103_b73 (this : Nat) (x1 : Int) (x6 : Int) (x8 : Int) (y0 : Int) (h : jH) : Option Int :=
  ((jgr h this 6 2).bind fun r9 => ((jck h this 6).bind fun u11 => ((jd_98 this x1 h).bind fun v13 => ((r9).bind fun a15 => ((jai h a15 ((v13 + (y0 * x6)) + x8)).bind fun v17 => some v17)))))
def jd_103_b41 (this : Nat) (x1 : Int) (x4 : Int) (x6 : Int) (x7 : Int) (y0 : Int) (h : jH) : Option Int :=
  jd_103_b73 this x1 x6 y0 (if 0 ≤ (jwl x4) then (if (jwl x4) < (jw x7) then x4 else (x7 - 1)) else 0) h
def jd_103 (this : Nat) (p0 : Int) (p1 : Int) (p2 : Int) (h : jH) : Option Int :=
  ((jck h this 6).bind fun u1 => ((jd_96 this p0 h).bind fun v3 => ((jck h this 6).bind fun u5 => ((jd_97 this p0 h).bind fun v7 => jd_103_b41 this p0 p2 v3 v7 (if 0 ≤ (jwl p1) then (if (jwl p1) < (jw v3) then p1 else (v3 - 1)) else 0) h))))
def jd_56_b381 (this : Nat) (x1 : Option Nat) (x2 : Int) (x3 : Int) (x4 : Int) (x5 : Int) (x6 : Int) (x7 : Int) (x10 : Int) (h : jH) : Option ((Int × Int × jH) ⊕ (jH ⊕ (Int × jH))) :=
  ((jgr h this 3 2).bind fun r31 => ((r31).bind fun a33 => ((jta h a33 0 x6 x10).bind fun h35 => some (.inl ((x6 + 1), (x7 + 1), h35)))))
def jd_56_b379 (this : Nat) (x1 : Option Nat) (x2 : Int) (x3 : Int) (x4 : Int) (x5 : Int) (x6 : Int) (x7 : Int) (y0 : Int) (h : jH) : Option ((Int × Int × jH) ⊕ (jH ⊕ (Int × jH))) :=
  jd_56_b381 this x1 x2 x3 x4 x5 x6 x7 y0 h
def jd_56_b341 (this : Nat) (x1 : Option Nat) (x2 : Int) (x3 : Int) (x4 : Int) (x5 : Int) (x6 : Int) (x7 : Int) (x8 : Int) (h : jH) : Option ((Int × Int × jH) ⊕ (jH ⊕ (Int × jH))) :=
  (if (jw x8) < 1000 then ((jgr h this 3 2).bind fun r39 => ((r39).bind fun a41 => ((jai h a41 x6).bind fun v43 => ((jgr h this 3 2).bind fun r45 => ((r45).bind fun a47 => ((jai h a47 (x6 + 1)).bind fun v49 => ((jd_58 x8 v43 v49).bind fun v51 => jd_56_b379 this x1 x2 x3 x4 x5 x6 x7 v51 h))))))) else jd_56_b379 this x1 x2 x3 x4 x5 x6 x7 (x8 - 1000) h)
def jd_56_b323 (this : Nat) (x1 : Option Nat) (x2 : Int) (x3 : Int) (x4 : Int) (x5 : Int) (x6 : Int) (x7 : Int) (y0 : Int) (h : jH) : Option ((Int × Int × jH) ⊕ (jH ⊕ (Int × jH))) :=
  jd_56_b381 this x1 x2 x3 x4 x5 x6 x7 y0 h
def jd_56_s6 (this : Nat) (x1 : Option Nat) (x2 : Int) (x3 : Int) (x4 : Int) (x5 : Int) (x6 : Int) (x7 : Int) (h : jH) : Option ((Int × Int × jH) ⊕ (jH ⊕ (Int × jH))) :=
  ((jgi h this 3 1).bind fun v1 => (if (jw v1) ≤ (jw x7) then some (.inr (.inr (x6, h))) else ((jgr h this 3 0).bind fun r4 => ((r4).bind fun a6 => ((jai h a6 x7).bind fun v8 => (if (jw x6) < (jw (jd_57 v8)) then some (.inr (.inl h)) else (if (jw (x6 - (jd_57 v8))) < 200 then (if (jw v8) = 97 then ((jgr h this 3 2).bind fun r13 => ((r13).bind fun a15 => ((jai h a15 (x6 - (jd_57 v8))).bind fun v17 => ((jgr h this 3 2).bind fun r19 => ((r19).bind fun a21 => ((jai h a21 ((x6 - (jd_57 v8)) + 1)).bind fun v23 => ((x1).bind fun a25 => ((jck h a25 6).bind fun u27 => ((jd_103 a25 x2 ((jw x3) + (jw v17)) ((jw x4) + (jw v23)) h).bind fun v29 => jd_56_b381 this x1 x2 x3 x4 x5 (x6 - (jd_57 v8)) x7 v29 h))))))))) else (if (jw v8) = 98 then jd_56_b341 this x1 x2 x3 x4 x5 (x6 - (jd_57 v8)) x7 v8 h else (if (jw v8) = 99 then jd_56_b341 this x1 x2 x3 x4 x5 (x6 - (jd_57 v8)) x7 v8 h else (if (jw v8) = 100 then jd_56_b341 this x1 x2 x3 x4 x5 (x6 - (jd_57 v8)) x7 v8 h else (if (jw v8) = 101 then jd_56_b341 this x1 x2 x3 x4 x5 (x6 - (jd_57 v8)) x7 v8 h else (if (jw v8) = 102 then jd_56_b341 this x1 x2 x3 x4 x5 (x6 - (jd_57 v8)) x7 v8 h else (if (jw v8) = 103 then jd_56_b341 this x1 x2 x3 x4 x5 (x6 - (jd_57 v8)) x7 v8 h else (if (jw v8) = 104 then ((x1).bind fun a59 => ((jck h a59 6).bind fun u61 => ((jd_97 a59 x2 h).bind fun v63 => jd_56_b381 this x1 x2 x3 x4 x5 (x6 - (jd_57 v8)) x7 v63 h))) else (if (jw v8) = 105 then ((jgr h this 3 2).bind fun r66 => ((r66).bind fun a68 => ((jai h a68 (x6 - (jd_57 v8))).bind fun v70 => (if (jw v70) = 0 then ((jgr h this 3 2).bind fun r73 => ((r73).bind fun a75 => ((jai h a75 ((x6 - (jd_57 v8)) + 2)).bind fun v77 => jd_56_b323 this x1 x2 x3 x4 x5 (x6 - (jd_57 v8)) x7 v77 h))) else ((jgr h this 3 2).bind fun r79 => ((r79).bind fun a81 => ((jai h a81 ((x6 - (jd_57 v8)) + 1)).bind fun v83 => jd_56_b323 this x1 x2 x3 x4 x5 (x6 - (jd_57 v8)) x7 v83 h))))))) else (if (jw v8) = 106 then jd_56_b341 this x1 x2 x3 x4 x5 (x6 - (jd_57 v8)) x7 v8 h else (if (jw v8) = 107 then jd_56_b341 this x1 x2 x3 x4 x5 (x6 - (jd_57 v8)) x7 v8 h else (if (jw v8) = 108 then jd_56_b341 this x1 x2 x3 x4 x5 (x6 - (jd_57 v8)) x7 v8 h else (if (jw v8) = 109 then jd_56_b341 this x1 x2 x3 x4 x5 (x6 - (jd_57 v8)) x7 v8 h else (if (jw v8) = 110 then jd_56_b381 this x1 x2 x3 x4 x5 (x6 - (jd_57 v8)) x7 x2 h else (if (jw v8) = 111 then jd_56_b341 this x1 x2 x3 x4 x5 (x6 - (jd_57 v8)) x7 v8 h else (if (jw v8) = 112 then jd_56_b341 this x1 x2 x3 x4 x5 (x6 - (jd_57 v8)) x7 v8 h else (if (jw v8) = 113 then jd_56_b341 this x1 x2 x3 x4 x5 (x6 - (jd_57 v8)) x7 v8 h else (if (jw v8) = 114 then jd_56_b341 this x1 x2 x3 x4 x5 (x6 - (jd_57 v8)) x7 v8 h else (if (jw v8) = 115 then ((x1).bind fun a95 => ((jck h a95 6).bind fun u97 => ((jd_103 a95 x2 (jw x3) (jw x4) h).bind fun v99 => jd_56_b381 this x1 x2 x3 x4 x5 (x6 - (jd_57 v8)) x7 v99 h))) else (if (jw v8) = 116 then jd_56_b381 this x1 x2 x3 x4 x5 (x6 - (jd_57 v8)) x7 x5 h else (if (jw v8) = 117 then jd_56_b341 this x1 x2 x3 x4 x5 (x6 - (jd_57 v8)) x7 v8 h else (if (jw v8) = 118 then jd_56_b341 this x1 x2 x3 x4 x5 (x6 - (jd_57 v8)) x7 v8 h else (if (jw v8) = 119 then ((x1).bind fun a105 => ((jck h a105 6).bind fun u107 => ((jd_96 a105 x2 h).bind fun v109 => jd_56_b381 this x1 x2 x3 x4 x5 (x6 - (jd_57 v8)) x7 v109 h))) else (if (jw v8) = 120 then jd_56_b381 this x1 x2 x3 x4 x5 (x6 - (jd_57 v8)) x7 x3 h else (if (jw v8) = 121 then jd_56_b381 this x1 x2 x3 x4 x5 (x6 - (jd_57 v8)) x7 x4 h else (if (jw v8) = 122 then jd_56_b341 this x1 x2 x3 x4 x5 (x6 - (jd_57 v8)) x7 v8 h else (if (jw v8) = 123 then jd_56_b341 this x1 x2 x3 x4 x5 (x6 - (jd_57 v8)) x7 v8 h else (if (jw v8) = 124 then jd_56_b341 this x1 x2 x3 x4 x5 (x6 - (jd_57 v8)) x7 v8 h else (if (jw v8) = 125 then jd_56_b341 this x1 x2 x3 x4 x5 (x6 - (jd_57 v8)) x7 v8 h else (if (jw v8) = 126 then ((jgr h this 3 2).bind fun r118 => ((r118).bind fun a120 => ((jai h a120 (x6 - (jd_57 v8))).bind fun v122 => jd_56_b381 this x1 x2 x3 x4 x5 (x6 - (jd_57 v8)) x7 (-v122) h))) else jd_56_b341 this x1 x2 x3 x4 x5 (x6 - (jd_57 v8)) x7 v8 h)))))))))))))))))))))))))))))) else some (.inr (.inl h)))))))))
def jd_56_l6 (this : Nat) (x1 : Option Nat) (x2 : Int) (x3 : Int) (x4 : Int) (x5 : Int) (x6 : Int) (x7 : Int) (h : jH) : Option (jH ⊕ (Int × jH)) :=
  jlp (fun s : (Int × Int × jH) => jd_56_s6 this x1 x2 x3 x4 x5 s.1 s.2.1 s.2.2) jfu (x6, x7, h)
def jd_56_b415 (this : Nat) (y0 : Int) (h : jH) : Option (Int × jH) :=
  some (y0, h)
def jd_56 (this : Nat) (p0 : Option Nat) (p1 : Int) (p2 : Int) (p3 : Int) (p4 : Int) (h : jH) : Option (Int × jH) :=
  ((jd_56_l6 this p0 p1 p2 p3 p4 0 0 h).bind fun x124 => jse x124 (fun y126 => some (0, y126)) (fun y127 => (if (jw y127.1) = 1 then ((jgr y127.2 this 3 2).bind fun r129 => ((r129).bind fun a131 => ((jai y127.2 a131 0).bind fun v133 => jd_56_b415 this v133 y127.2))) else jd_56_b415 this 0 y127.2)))
def jd_123 (this : Nat)  (h : jH) : Option jH :=
  ((jpi h this 9 0 0).bind fun h1 => ((jna h1 0 577).bind fun n3 => ((jpr n3.2 this 9 1 (some n3.1)).bind fun h5 => ((jna h5 0 576).bind fun n7 => ((jpr n7.2 this 9 2 (some n7.1)).bind fun h9 => ((jna h9 0 576).bind fun n11 => ((jpr n11.2 this 9 3 (some n11.1)).bind fun h13 => some h13)))))))
def jd_131 (this : Nat)  (h : jH) : Option jH :=
  ((jna h 0 576).bind fun n1 => ((jpr n1.2 this 10 0 (some n1.1)).bind fun h3 => ((jna h3 0 24).bind fun n5 => ((jpr n5.2 this 10 1 (some n5.1)).bind fun h7 => some h7))))
def jd_59 (this : Nat)  (h : jH) : Option jH :=
  ((jnw h 0).bind fun n1 => ((jd_0 n1.1 n1.2).bind fun h3 => ((jpr h3 this 4 0 (some n1.1)).bind fun h5 => ((jnw h5 1).bind fun n7 => ((jd_15 n7.1 n7.2).bind fun h9 => ((jpr h9 this 4 1 (some n7.1)).bind fun h11 => ((jnw h11 10).bind fun n13 => ((jd_131 n13.1 n13.2).bind fun h15 => ((jpr h15 this 4 2 (some n13.1)).bind fun h17 => ((jnw h17 9).bind fun n19 => ((jd_123 n19.1 n19.2).bind fun h21 => ((jpr h21 this 4 3 (some n19.1)).bind fun h23 => ((jna h23 6 12).bind fun n25 => ((jpr n25.2 this 4 4 (some n25.1)).bind fun h27 => ((jpi h27 this 4 5 0).bind fun h29 => ((jpr h29 this 4 6 none).bind fun h31 => ((jna h31 0 12).bind fun n33 => ((jpr n33.2 this 4 7 (some n33.1)).bind fun h35 => ((jna h35 0 13).bind fun n37 => ((jpr n37.2 this 4 8 (some n37.1)).bind fun h39 => ((jna h39 0 4).bind fun n41 => ((jpr n41.2 this 4 9 (some n41.1)).bind fun h43 => some h43))))))))))))))))))))))
def jd_60_s13 (this : Nat) (x1 : Option Nat) (x4 : Int) (h : jH) : Option ((Int × jH) ⊕ jH) :=
  ((jgi h this 4 5).bind fun v5 => (if (jw v5) ≤ (jw x4) then some (.inr h) else ((jgr h this 4 4).bind fun r8 => ((x1).bind fun a10 => ((jar h a10 6 x4).bind fun r12 => ((r12).bind fun a14 => ((r8).bind fun a16 => ((jtr h a16 6 x4 a14).bind fun h18 => some (.inl ((x4 + 1), h18))))))))))
def jd_60_l13 (this : Nat) (x1 : Option Nat) (x4 : Int) (h : jH) : Option jH :=
  jlp (fun s : (Int × jH) => jd_60_s13 this x1 s.1 s.2) jfu (x4, h)
def jd_60 (this : Nat) (p0 : Option Nat) (p1 : Int) (p2 : Option Nat) (h : jH) : Option jH :=
  ((jpi h this 4 5 p1).bind fun h1 => ((jpr h1 this 4 6 p2).bind fun h3 => ((jd_60_l13 this p0 0 h3).bind fun x20 => some x20)))
def jd_61_s18 (this : Nat) (x2 : Int) (x3 : Int) (h : jH) : Option ((Int × jH) ⊕ jH) :=
  ((jgi h this 4 5).bind fun v2 => (if (jw v2) ≤ (jw x3) then some (.inr h) else ((jgr h this 4 7).bind fun r5 => ((jgi h this 4 5).bind fun v7 => ((r5).bind fun a9 => ((jta h a9 0 x3 (if jw (v7 - x3) < jw x2 then (v7 - x3) else x2)).bind fun h11 => some (.inl ((x3 + 1), h11))))))))
def jd_61_l18 (this : Nat) (x2 : Int) (x3 : Int) (h : jH) : Option jH :=
  jlp (fun s : (Int × jH) => jd_61_s18 this x2 s.1 s.2) jfu (x3, h)
def jd_61_b15 (this : Nat) (y0 : Int) (h : jH) : Option jH :=
  ((jd_61_l18 this y0 0 h).bind fun x13 => some x13)
def jd_61 (this : Nat) (p0 : Int) (h : jH) : Option jH :=
  (if (jw p0) = 1 then jd_61_b15 this 1 h else ((jgr h this 4 6).bind fun r15 => ((r15).bind fun a17 => ((jai h a17 1).bind fun v19 => jd_61_b15 this v19 h))))
def jd_64_s77 (x0 : Option Nat) (x2 : Int) (x3 : Int) (x4 : Int) (x7 : Int) (x5 : Int) (x8 : Int) (h : jH) : Option ((Int × Int × jH) ⊕ (Int × jH)) :=
  (if (jw x7) ≤ (jw x8) then some (.inr (x5, h)) else ((x0).bind fun a38 => ((jgr h a38 2 7).bind fun r40 => ((r40).bind fun a42 => ((jta h a42 0 (x5 + 1) 2).bind fun h44 => ((x0).bind fun a46 => ((jgr h44 a46 2 8).bind fun r48 => ((r48).bind fun a50 => ((jta h44 a50 0 (x5 + 1) (x2 + x8)).bind fun h52 => some (.inl ((x5 + 1), (x8 + 1), h52)))))))))))
def jd_64_l77 (x0 : Option Nat) (x2 : Int) (x3 : Int) (x4 : Int) (x7 : Int) (x5 : Int) (x8 : Int) (h : jH) : Option (Int × jH) :=
  jlp (fun s : (Int × Int × jH) => jd_64_s77 x0 x2 x3 x4 x7 s.1 s.2.1 s.2.2) jfu (x5, x8, h)
def jd_64_b116 (x0 : Option Nat) (x2 : Int) (x3 : Int) (x4 : Int) (x5 : Int) (x6 : Int) (x7 : Int) (h : jH) : Option ((Int × Int × Int × jH) ⊕ jH) :=
  some (.inl (x5, x6, (x7 + 1), h))
def jd_64_b49 (x0 : Option Nat) (x2 : Int) (x3 : Int) (x4 : Int) (x5 : Int) (x6 : Int) (x7 : Int) (h : jH) : Option ((Int × Int × Int × jH) ⊕ jH) :=
  ((x0).bind fun a21 => ((jgr h a21 2 7).bind fun r23 => ((r23).bind fun a25 => ((jta h a25 0 (x5 + 1) 1).bind fun h27 => ((x0).bind fun a29 => ((jgr h27 a29 2 8).bind fun r31 => ((r31).bind fun a33 => ((jta h27 a33 0 (x5 + 1) (x2 + x7)).bind fun h35 => ((jd_64_l77 x0 x2 x3 x4 x7 (x5 + 1) (x6 + 1) h35).bind fun x54 => jd_64_b116 x0 x2 x3 x4 x54.1 x7 x7 x54.2)))))))))
def jd_64_s25 (x0 : Option Nat) (x2 : Int) (x3 : Int) (x4 : Int) (x5 : Int) (x6 : Int) (x7 : Int) (h : jH) : Option ((Int × Int × Int × jH) ⊕ jH) :=
  (if (jw x3) ≤ (jw x7) then some (.inr h) else ((jnz (x4 + 1)).bind fun u18 => (if (jw (jrem x7 (x4 + 1))) = 0 then jd_64_b49 x0 x2 x3 x4 x5 x6 x7 h else (if (jw x7) = (jw (x3 - 1)) then jd_64_b49 x0 x2 x3 x4 x5 x6 x7 h else jd_64_b116 x0 x2 x3 x4 x5 x6 x7 h))))
def jd_64_l25 (x0 : Option Nat) (x2 : Int) (x3 : Int) (x4 : Int) (x5 : Int) (x6 : Int) (x7 : Int) (h : jH) : Option jH :=
  jlp (fun s : (Int × Int × Int × jH) => jd_64_s25 x0 x2 x3 x4 s.1 s.2.1 s.2.2.1 s.2.2.2) jfu (x5, x6, x7, h)
def jd_64 (p0 : Option Nat) (p1 : Int) (p2 : Int) (p3 : Int) (p4 : Int) (h : jH) : Option jH :=
  ((p0).bind fun a1 => ((jgr h a1 2 7).bind fun r3 => ((r3).bind fun a5 => ((jta h a5 0 p1 0).bind fun h7 => ((p0).bind fun a9 => ((jgr h7 a9 2 8).bind fun r11 => ((r11).bind fun a13 => ((jta h7 a13 0 p1 p2).bind fun h15 => ((jd_64_l25 p0 p2 p3 p4 p1 0 1 h15).bind fun x57 => some x57)))))))))
def jd_63_b138 (this : Nat) (x1 : Option Nat) (x3 : Int) (x4 : Int) (x5 : Int) (x6 : Int) (h : jH) : Option ((Int × Int × Int × jH) ⊕ (Int × jH)) :=
  ((x1).bind fun a78 => ((jgr h a78 2 10).bind fun r80 => ((r80).bind fun a82 => ((jai h a82 x6).bind fun v84 => some (.inl (x4, (x5 + (5 + v84)), (x6 + 1), h))))))
def jd_63_b69 (this : Nat) (x1 : Option Nat) (x3 : Int) (x5 : Int) (x6 : Int) (x7 : Int) (y0 : Int) (h : jH) : Option ((Int × Int × Int × jH) ⊕ (Int × jH)) :=
  (if (jw y0) = 0 then ((jgr h this 4 4).bind fun r28 => ((x1).bind fun a30 => ((jgr h a30 2 8).bind fun r32 => ((r32).bind fun a34 => ((jai h a34 x6).bind fun v36 => ((r28).bind fun a38 => ((jar h a38 6 v36).bind fun r40 => ((jgr h this 4 1).bind fun r42 => ((jgr h this 4 0).bind fun r44 => ((jgr h this 4 6).bind fun r46 => ((r46).bind fun a48 => ((jai h a48 4).bind fun v50 => ((jgr h this 4 6).bind fun r52 => ((r52).bind fun a54 => ((jai h a54 3).bind fun v56 => ((r42).bind fun a58 => ((jck h a58 1).bind fun u60 => ((jd_16 a58 r44 x1 x6 r40 v50 v56 h).bind fun q62 => ((x1).bind fun a64 => ((jgr q62.2 a64 2 10).bind fun r66 => ((r66).bind fun a68 => ((jta q62.2 a68 0 x6 q62.1).bind fun h70 => ((jgr h70 this 4 9).bind fun r72 => ((r72).bind fun a74 => ((jta h70 a74 0 x6 x7).bind fun h76 => jd_63_b138 this x1 x3 y0 x5 x6 h76))))))))))))))))))))))))) else jd_63_b138 this x1 x3 y0 x5 x6 h)
def jd_63_s22 (this : Nat) (x1 : Option Nat) (x3 : Int) (x4 : Int) (x5 : Int) (x6 : Int) (h : jH) : Option ((Int × Int × Int × jH) ⊕ (Int × jH)) :=
  (if (jw x3) ≤ (jw x6) then some (.inr (x5, h)) else ((x1).bind fun a10 => ((jgr h a10 2 8).bind fun r12 => ((r12).bind fun a14 => ((jai h a14 x6).bind fun v16 => ((x1).bind fun a18 => ((jgr h a18 2 7).bind fun r20 => ((r20).bind fun a22 => ((jai h a22 x6).bind fun v24 => (if (jw x4) = 0 then jd_63_b69 this x1 x3 x5 x6 ((3 * v16) + v24) 0 h else ((jgr h this 4 9).bind fun r86 => ((r86).bind fun a88 => ((jai h a88 x6).bind fun v90 => jd_63_b69 this x1 x3 x5 x6 ((3 * v16) + v24) (if (jw v90) = (jw ((3 * v16) + v24)) then 1 else 0) h)))))))))))))
def jd_63_l22 (this : Nat) (x1 : Option Nat) (x3 : Int) (x4 : Int) (x5 : Int) (x6 : Int) (h : jH) : Option (Int × jH) :=
  jlp (fun s : (Int × Int × Int × jH) => jd_63_s22 this x1 x3 s.1 s.2.1 s.2.2.1 s.2.2.2) jfu (x4, x5, x6, h)
def jd_63 (this : Nat) (p0 : Option Nat) (p1 : Int) (p2 : Int) (h : jH) : Option (Int × jH) :=
  ((jgr h this 4 6).bind fun r1 => ((r1).bind fun a3 => ((jai h a3 2).bind fun v5 => ((jd_64 p0 0 p1 p2 v5 h).bind fun h7 => ((jd_63_l22 this p0 p2 1 0 0 h7).bind fun x94 => some (x94.1, x94.2))))))
def jd_62_s12 (this : Nat) (x1 : Option Nat) (x2 : Int) (h : jH) : Option ((Int × jH) ⊕ jH) :=
  (if 4 ≤ (jw x2) then some (.inr h) else ((jgr h this 4 9).bind fun r10 => ((r10).bind fun a12 => ((jta h a12 0 x2 (-1)).bind fun h14 => some (.inl ((x2 + 1), h14))))))
def jd_62_l12 (this : Nat) (x1 : Option Nat) (x2 : Int) (h : jH) : Option jH :=
  jlp (fun s : (Int × jH) => jd_62_s12 this x1 s.1 s.2) jfu (x2, h)
def jd_62_b137 (this : Nat) (x1 : Option Nat) (x2 : Int) (x3 : Int) (h : jH) : Option ((Int × jH) ⊕ jH) :=
  some (.inl ((x3 + 1), h))
def jd_62_s78 (this : Nat) (x1 : Option Nat) (x2 : Int) (x3 : Int) (h : jH) : Option ((Int × jH) ⊕ jH) :=
  (if 4 < (jw x3) then some (.inr h) else ((jgi h this 4 5).bind fun v56 => (if (jw v56) < (jw (x2 + x3)) then some (.inr h) else ((jck h this 4).bind fun u59 => ((jd_63 this x1 x2 x3 h).bind fun q61 => ((jgr q61.2 this 4 8).bind fun r63 => ((r63).bind fun a65 => ((jai q61.2 a65 (x2 + x3)).bind fun v67 => ((jgr q61.2 this 4 8).bind fun r69 => ((r69).bind fun a71 => ((jai q61.2 a71 x2).bind fun v73 => (if (jw v73) ≤ (jw (q61.1 + v67)) then jd_62_b137 this x1 x2 x3 q61.2 else ((jgr q61.2 this 4 8).bind fun r76 => ((r76).bind fun a78 => ((jta q61.2 a78 0 x2 (q61.1 + v67)).bind fun h80 => ((jgr h80 this 4 7).bind fun r82 => ((r82).bind fun a84 => ((jta h80 a84 0 x2 x3).bind fun h86 => jd_62_b137 this x1 x2 x3 h86))))))))))))))))))
def jd_62_l78 (this : Nat) (x1 : Option Nat) (x2 : Int) (x3 : Int) (h : jH) : Option jH :=
  jlp (fun s : (Int × jH) => jd_62_s78 this x1 x2 s.1 s.2) jfu (x3, h)
def jd_62_s64 (this : Nat) (x1 : Option Nat) (x2 : Int) (h : jH) : Option ((Int × jH) ⊕ jH) :=
  (if (jw x2) < 0 then some (.inr h) else ((jgr h this 4 8).bind fun r49 => ((r49).bind fun a51 => ((jta h a51 0 x2 2147483647).bind fun h53 => ((jd_62_l78 this x1 x2 1 h53).bind fun x88 => some (.inl ((x2 + (-1)), x88)))))))
def jd_62_l64 (this : Nat) (x1 : Option Nat) (x2 : Int) (h : jH) : Option jH :=
  jlp (fun s : (Int × jH) => jd_62_s64 this x1 s.1 s.2) jfu (x2, h)
def jd_62 (this : Nat) (p0 : Option Nat) (h : jH) : Option jH :=
  ((jgr h this 4 8).bind fun r1 => ((jgi h this 4 5).bind fun v3 => ((r1).bind fun a5 => ((jta h a5 0 v3 0).bind fun h7 => ((jd_62_l12 this p0 0 h7).bind fun x16 => ((jgr x16 this 4 4).bind fun r18 => ((r18).bind fun a20 => ((jar x16 a20 6 0).bind fun r22 => ((r22).bind fun a24 => ((jgi x16 a24 6 0).bind fun v26 => ((jgr x16 this 4 4).bind fun r28 => ((r28).bind fun a30 => ((jar x16 a30 6 0).bind fun r32 => ((r32).bind fun a34 => ((jgi x16 a34 6 1).bind fun v36 => ((jgi x16 this 4 5).bind fun v38 => ((p0).bind fun a40 => ((jck x16 a40 2).bind fun u42 => ((jd_28 a40 v26 v36 0 v38 x16).bind fun h44 => ((jgi h44 this 4 5).bind fun v46 => ((jd_62_l64 this p0 (v46 - 1) h44).bind fun x90 => some x90)))))))))))))))))))))
def jd_66_s85 (this : Nat) (x1 : Option Nat) (x2 : Int) (x3 : Int) (x4 : Int) (x5 : Option Nat) (x6 : Int) (x7 : Int) (h : jH) : Option ((Int × Int × jH) ⊕ (Int × Int × jH)) :=
  (if (jw x2) ≤ 0 then some (.inr (x6, x7, h)) else (if (jw (8 * x7)) ≤ (jw x3) then some (.inr (x6, x7, h)) else (if 31 ≤ (jw x6) then some (.inr (x6, x7, h)) else ((jgr h this 4 1).bind fun r57 => ((jgr h this 4 0).bind fun r59 => ((jgr h this 4 6).bind fun r61 => ((r61).bind fun a63 => ((jai h a63 3).bind fun v65 => ((r57).bind fun a67 => ((jck h a67 1).bind fun u69 => ((jd_16 a67 r59 x1 x4 x5 (x6 + 1) v65 h).bind fun q71 => some (.inl ((x6 + 1), q71.1, q71.2)))))))))))))
def jd_66_l85 (this : Nat) (x1 : Option Nat) (x2 : Int) (x3 : Int) (x4 : Int) (x5 : Option Nat) (x6 : Int) (x7 : Int) (h : jH) : Option (Int × Int × jH) :=
  jlp (fun s : (Int × Int × jH) => jd_66_s85 this x1 x2 x3 x4 x5 s.1 s.2.1 s.2.2) jfu (x6, x7, h)
def jd_66_b150 (this : Nat) (x1 : Option Nat) (x2 : Int) (x3 : Int) (x4 : Int) (x6 : Int) (x7 : Int) (h : jH) : Option ((Int × Int × jH) ⊕ (jH ⊕ jH)) :=
  (if (jw x7) ≤ 2000 then ((jgr h this 4 0).bind fun r77 => ((r77).bind fun a79 => ((jgr h a79 0 0).bind fun r81 => ((x1).bind fun a83 => ((jck h a83 2).bind fun u85 => ((jd_27 a83 x4 x6 r81 0 x7 h).bind fun h87 => some (.inl ((x3 - (8 * x7)), (x4 + 1), h87)))))))) else some (.inr (.inl h)))
def jd_66_s14 (this : Nat) (x1 : Option Nat) (x2 : Int) (x3 : Int) (x4 : Int) (h : jH) : Option ((Int × Int × jH) ⊕ (jH ⊕ jH)) :=
  ((jgi h this 4 5).bind fun v7 => (if (jw v7) ≤ (jw x4) then some (.inr (.inr h)) else ((jgr h this 4 6).bind fun r10 => ((r10).bind fun a12 => ((jai h a12 6).bind fun v14 => ((some (if jw (x3 + v14) < jw x2 then (x3 + v14) else x2)).bind fun z16 => ((jgr h this 4 4).bind fun r18 => ((x1).bind fun a20 => ((jgr h a20 2 8).bind fun r22 => ((r22).bind fun a24 => ((jai h a24 x4).bind fun v26 => ((r18).bind fun a28 => ((jar h a28 6 v26).bind fun r30 => ((jgr h this 4 6).bind fun r32 => ((r32).bind fun a34 => ((jai h a34 4).bind fun v36 => ((jgr h this 4 1).bind fun r38 => ((jgr h this 4 0).bind fun r40 => ((jgr h this 4 6).bind fun r42 => ((r42).bind fun a44 => ((jai h a44 3).bind fun v46 => ((r38).bind fun a48 => ((jck h a48 1).bind fun u50 => ((jd_16 a48 r40 x1 x4 r30 v36 v46 h).bind fun q52 => ((jd_66_l85 this x1 x2 z16 x4 r30 v36 q52.1 q52.2).bind fun x73 => (if (jw x2) ≤ 0 then jd_66_b150 this x1 x2 z16 x4 x73.1 x73.2.1 x73.2.2 else (if (jw z16) < (jw (8 * x73.2.1)) then some (.inr (.inl x73.2.2)) else jd_66_b150 this x1 x2 z16 x4 x73.1 x73.2.1 x73.2.2)))))))))))))))))))))))))))
def jd_66_l14 (this : Nat) (x1 : Option Nat) (x2 : Int) (x3 : Int) (x4 : Int) (h : jH) : Option (jH ⊕ jH) :=
  jlp (fun s : (Int × Int × jH) => jd_66_s14 this x1 x2 s.1 s.2.1 s.2.2) jfu (x3, x4, h)
def jd_66 (this : Nat) (p0 : Option Nat) (h : jH) : Option (Int × jH) :=
  ((jgr h this 4 6).bind fun r1 => ((r1).bind fun a3 => ((jai h a3 5).bind fun v5 => ((jd_66_l14 this p0 v5 (jdiv v5 2) 0 h).bind fun x90 => jse x90 (fun y92 => some (0, y92)) (fun y93 => some (1, y93))))))
def jd_129_b33 (this : Nat)  (h : jH) : Option jH :=
  some h
def jd_129 (this : Nat) (p0 : Int) (p1 : Int) (p2 : Int) (p3 : Int) (h : jH) : Option jH :=
  ((jgr h this 9 1).bind fun r1 => ((r1).bind fun a3 => ((jai h a3 p0).bind fun v5 => (if (jw v5) ≤ (jw p3) then jd_129_b33 this  h else ((jgr h this 9 1).bind fun r8 => ((r8).bind fun a10 => ((jta h a10 0 p0 p3).bind fun h12 => ((jgr h12 this 9 2).bind fun r14 => ((r14).bind fun a16 => ((jta h12 a16 0 p0 p1).bind fun h18 => ((jgr h18 this 9 3).bind fun r20 => ((r20).bind fun a22 => ((jta h18 a22 0 p0 p2).bind fun h24 => jd_129_b33 this  h24)))))))))))))
def jd_128_s6 (this : Nat) (x1 : Int) (x2 : Int) (x4 : Int) (x5 : Int) (x6 : Int) (h : jH) : Option ((Int × Int × jH) ⊕ jH) :=
  (if 12 ≤ (jw x6) then some (.inr h) else (if (jw x5) ≤ 0 then some (.inr h) else ((jd_11 (x5 - 1)).bind fun v3 => ((jd_11 x2).bind fun v5 => ((jgr h this 9 1).bind fun r7 => ((r7).bind fun a9 => ((jai h a9 (x1 + x5)).bind fun v11 => ((jck h this 9).bind fun u13 => ((jd_129 this x1 x2 x5 (((v5 + v3) + x4) + v11) h).bind fun h15 => some (.inl (((jshl 1 (jdiv v3 2)) - 1), (x6 + 1), h15)))))))))))
def jd_128_l6 (this : Nat) (x1 : Int) (x2 : Int) (x4 : Int) (x5 : Int) (x6 : Int) (h : jH) : Option jH :=
  jlp (fun s : (Int × Int × jH) => jd_128_s6 this x1 x2 x4 s.1 s.2.1 s.2.2) jfu (x5, x6, h)
def jd_128 (this : Nat) (p0 : Int) (p1 : Int) (p2 : Int) (p3 : Int) (h : jH) : Option jH :=
  ((jd_128_l6 this p0 p1 p3 p2 0 h).bind fun x17 => some x17)
def jd_130_b112 (this : Nat) (x1 : Int) (x2 : Int) (x3 : Int) (x4 : Int) (x5 : Int) (h : jH) : Option ((Int × Int × Int) ⊕ ((Int × Int) ⊕ (Int × Int))) :=
  some (.inl (x3, x4, (x5 + 1)))
def jd_130_b43 (this : Nat) (x1 : Int) (x2 : Int) (x3 : Int) (x4 : Int) (x5 : Int) (x6 : Int) (h : jH) : Option ((Int × Int × Int) ⊕ ((Int × Int) ⊕ (Int × Int))) :=
  ((jd_11 3).bind fun v3 => ((jd_11 (x5 - 1)).bind fun v5 => (if (jw x3) < (jw ((v3 + v5) + (8 * x5))) then some (.inr (.inr (x3, x4))) else ((jgr h this 9 1).bind fun r8 => ((r8).bind fun a10 => ((jai h a10 x1).bind fun v12 => (if (jw ((v3 + v5) + (8 * x5))) ≤ (jw v12) then ((jgr h this 9 1).bind fun r15 => ((r15).bind fun a17 => ((jai h a17 x6).bind fun v19 => (if (jw x3) < (jw (((v3 + v5) + (8 * x5)) + v19)) then jd_130_b112 this x1 x2 x3 x4 x5 h else ((jgr h this 9 1).bind fun r22 => ((r22).bind fun a24 => ((jai h a24 x6).bind fun v26 => jd_130_b112 this x1 x2 (((v3 + v5) + (8 * x5)) + v26) x5 x5 h))))))) else some (.inr (.inl (x3, x4))))))))))
def jd_130_s9 (this : Nat) (x1 : Int) (x2 : Int) (x3 : Int) (x4 : Int) (x5 : Int) (h : jH) : Option ((Int × Int × Int) ⊕ ((Int × Int) ⊕ (Int × Int))) :=
  (if (jw (x2 - x1)) < (jw x5) then some (.inr (.inr (x3, x4))) else (if (jw x2) ≤ (jw (x1 + x5)) then jd_130_b43 this x1 x2 x3 x4 x5 (x1 + x5) h else ((jgr h this 9 2).bind fun r28 => ((r28).bind fun a30 => ((jai h a30 (x1 + x5)).bind fun v32 => (if (jw v32) = 3 then jd_130_b112 this x1 x2 x3 x4 x5 h else jd_130_b43 this x1 x2 x3 x4 x5 (x1 + x5) h))))))
def jd_130_l9 (this : Nat) (x1 : Int) (x2 : Int) (x3 : Int) (x4 : Int) (x5 : Int) (h : jH) : Option ((Int × Int) ⊕ (Int × Int)) :=
  jlp (fun s : (Int × Int × Int) => jd_130_s9 this x1 x2 s.1 s.2.1 s.2.2 h) jfu (x3, x4, x5)
def jd_130_b132 (this : Nat)  (h : jH) : Option jH :=
  some h
def jd_130_b118 (this : Nat) (x1 : Int) (x3 : Int) (x4 : Int) (h : jH) : Option jH :=
  (if (jw x4) ≤ 0 then jd_130_b132 this  h else ((jck h this 9).bind fun u40 => ((jd_129 this x1 3 x4 x3 h).bind fun h42 => jd_130_b132 this  h42)))
def jd_130 (this : Nat) (p0 : Int) (p1 : Int) (h : jH) : Option jH :=
  ((jd_130_l9 this p0 p1 1000000 0 1 h).bind fun x35 => jse x35 (fun y37 => jd_130_b118 this p0 y37.1 y37.2 h) (fun y38 => jd_130_b118 this p0 y38.1 y38.2 h))
def jd_127_b162 (this : Nat) (x3 : Option Nat) (x4 : Int) (x5 : Int) (x6 : Int) (x7 : Option Nat) (x8 : Int) (x9 : Int) (x11 : Int) (y0 : Int) (h : jH) : Option ((Int × Int × Int × Int × jH) ⊕ jH) :=
  ((jgr h this 9 1).bind fun r37 => ((r37).bind fun a39 => ((jta h a39 0 x11 1000000).bind fun h41 => ((jck h41 this 9).bind fun u43 => ((jd_128 this x11 0 x8 8 h41).bind fun h45 => ((jck h45 this 9).bind fun u47 => ((jd_128 this x11 1 x9 0 h45).bind fun h49 => ((jck h49 this 9).bind fun u51 => ((jd_128 this x11 2 y0 0 h49).bind fun h53 => ((jck h53 this 9).bind fun u55 => ((jd_130 this x11 x5 h53).bind fun h57 => some (.inl (x8, x9, y0, (x11 + (-1)), h57)))))))))))))
def jd_127_b129 (this : Nat) (x3 : Option Nat) (x4 : Int) (x5 : Int) (x6 : Int) (x7 : Option Nat) (x8 : Int) (x10 : Int) (x11 : Int) (x12 : Int) (y0 : Int) (h : jH) : Option ((Int × Int × Int × Int × jH) ⊕ jH) :=
  (if (jw x11) < (jw x4) then jd_127_b162 this x3 x4 x5 x6 x7 x8 y0 x11 0 h else ((x7).bind fun a59 => ((jai h a59 ((x6 + x11) - x4)).bind fun v61 => jd_127_b162 this x3 x4 x5 x6 x7 x8 y0 x11 (if (jw v61) = (jw x12) then (x10 + 1) else 0) h)))
def jd_127_b100 (this : Nat) (x3 : Option Nat) (x4 : Int) (x5 : Int) (x6 : Int) (x7 : Option Nat) (x9 : Int) (x10 : Int) (x11 : Int) (x12 : Int) (y0 : Int) (h : jH) : Option ((Int × Int × Int × Int × jH) ⊕ jH) :=
  (if x3 = none then jd_127_b129 this x3 x4 x5 x6 x7 y0 x10 x11 x12 0 h else ((x3).bind fun a65 => ((jgr h a65 6 2).bind fun r67 => ((r67).bind fun a69 => ((jai h a69 (x6 + x11)).bind fun v71 => jd_127_b129 this x3 x4 x5 x6 x7 y0 x10 x11 x12 (if (jw v71) = (jw x12) then (x9 + 1) else 0) h)))))
def jd_127_s53 (this : Nat) (x3 : Option Nat) (x4 : Int) (x5 : Int) (x6 : Int) (x7 : Option Nat) (x8 : Int) (x9 : Int) (x10 : Int) (x11 : Int) (h : jH) : Option ((Int × Int × Int × Int × jH) ⊕ jH) :=
  (if (jw x11) < 0 then some (.inr h) else ((x7).bind fun a30 => ((jai h a30 (x6 + x11)).bind fun v32 => (if (jw x5) ≤ (jw (x11 + 1)) then jd_127_b100 this x3 x4 x5 x6 x7 x9 x10 x11 v32 1 h else ((x7).bind fun a76 => ((jai h a76 ((x6 + x11) + 1)).bind fun v78 => jd_127_b100 this x3 x4 x5 x6 x7 x9 x10 x11 v32 (if (jw v78) = (jw v32) then (x8 + 1) else 1) h))))))
def jd_127_l53 (this : Nat) (x3 : Option Nat) (x4 : Int) (x5 : Int) (x6 : Int) (x7 : Option Nat) (x8 : Int) (x9 : Int) (x10 : Int) (x11 : Int) (h : jH) : Option jH :=
  jlp (fun s : (Int × Int × Int × Int × jH) => jd_127_s53 this x3 x4 x5 x6 x7 s.1 s.2.1 s.2.2.1 s.2.2.2.1 s.2.2.2.2) jfu (x8, x9, x10, x11, h)
def jd_127 (this : Nat) (p0 : Option Nat) (p1 : Int) (p2 : Option Nat) (h : jH) : Option jH :=
  ((p0).bind fun a1 => ((jck h a1 6).bind fun u3 => ((jd_96 a1 p1 h).bind fun v5 => ((p0).bind fun a7 => ((jck h a7 6).bind fun u9 => ((jd_97 a7 p1 h).bind fun v11 => ((p0).bind fun a13 => ((jck h a13 6).bind fun u15 => ((jd_98 a13 p1 h).bind fun v17 => ((p0).bind fun a19 => ((jgr h a19 6 2).bind fun r21 => ((jgr h this 9 1).bind fun r23 => ((r23).bind fun a25 => ((jta h a25 0 (v5 * v11) 0).bind fun h27 => ((jd_127_l53 this p2 v5 (v5 * v11) v17 r21 0 0 0 ((v5 * v11) - 1) h27).bind fun x82 => some x82)))))))))))))))
def jd_126_s106 (this : Nat) (x1 : Option Nat) (x2 : Option Nat) (x5 : Int) (x6 : Int) (x7 : Int) (x8 : Int) (x10 : Int) (x11 : Int) (x12 : Int) (h : jH) : Option ((Int × jH) ⊕ jH) :=
  (if (jw x11) ≤ (jw x12) then some (.inr h) else ((x2).bind fun a50 => ((jgr h a50 6 2).bind fun r52 => ((r52).bind fun a54 => ((jai h a54 ((x5 + x7) + x12)).bind fun v56 => ((x1).bind fun a58 => ((jck h a58 0).bind fun u60 => ((jd_8 a58 v56 8 h).bind fun h62 => some (.inl ((x12 + 1), h62))))))))))
def jd_126_l106 (this : Nat) (x1 : Option Nat) (x2 : Option Nat) (x5 : Int) (x6 : Int) (x7 : Int) (x8 : Int) (x10 : Int) (x11 : Int) (x12 : Int) (h : jH) : Option jH :=
  jlp (fun s : (Int × jH) => jd_126_s106 this x1 x2 x5 x6 x7 x8 x10 x11 s.1 s.2) jfu (x12, h)
def jd_126_b101 (this : Nat) (x1 : Option Nat) (x2 : Option Nat) (x5 : Int) (x6 : Int) (x7 : Int) (x8 : Int) (x10 : Int) (y0 : Int) (h : jH) : Option ((Int × Int × jH) ⊕ jH) :=
  ((jd_126_l106 this x1 x2 x5 x6 x7 x8 x10 y0 0 h).bind fun x64 => some (.inl ((x7 + x10), (x8 + 1), x64)))
def jd_126_s34 (this : Nat) (x1 : Option Nat) (x2 : Option Nat) (x5 : Int) (x6 : Int) (x7 : Int) (x8 : Int) (h : jH) : Option ((Int × Int × jH) ⊕ jH) :=
  (if (jw x6) ≤ (jw x8) then some (.inr h) else (if (jw x6) ≤ (jw x7) then some (.inr h) else ((jgr h this 9 2).bind fun r25 => ((r25).bind fun a27 => ((jai h a27 x7).bind fun v29 => ((jgr h this 9 3).bind fun r31 => ((r31).bind fun a33 => ((jai h a33 x7).bind fun v35 => ((x1).bind fun a37 => ((jck h a37 0).bind fun u39 => ((jd_9 a37 v29 h).bind fun h41 => ((x1).bind fun a43 => ((jck h41 a43 0).bind fun u45 => ((jd_9 a43 (v35 - 1) h41).bind fun h47 => jd_126_b101 this x1 x2 x5 x6 x7 x8 v35 (if (jw v29) = 0 then 1 else (if (jw v29) = 3 then v35 else 0)) h47))))))))))))))
def jd_126_l34 (this : Nat) (x1 : Option Nat) (x2 : Option Nat) (x5 : Int) (x6 : Int) (x7 : Int) (x8 : Int) (h : jH) : Option jH :=
  jlp (fun s : (Int × Int × jH) => jd_126_s34 this x1 x2 x5 x6 s.1 s.2.1 s.2.2) jfu (x7, x8, h)
def jd_126 (this : Nat) (p0 : Option Nat) (p1 : Option Nat) (p2 : Int) (p3 : Option Nat) (h : jH) : Option jH :=
  ((jck h this 9).bind fun u1 => ((jd_127 this p1 p2 p3 h).bind fun h3 => ((p1).bind fun a5 => ((jck h3 a5 6).bind fun u7 => ((jd_98 a5 p2 h3).bind fun v9 => ((p1).bind fun a11 => ((jck h3 a11 6).bind fun u13 => ((jd_96 a11 p2 h3).bind fun v15 => ((p1).bind fun a17 => ((jck h3 a17 6).bind fun u19 => ((jd_97 a17 p2 h3).bind fun v21 => ((jd_126_l34 this p0 p1 v9 (v15 * v21) 0 0 h3).bind fun x69 => some x69))))))))))))
def jd_137_s3 (this : Nat) (x1 : Int) (x2 : Int) (x3 : Int) (x4 : Int) (h : jH) : Option ((Int × jH) ⊕ jH) :=
  (if (jw x3) ≤ (jw x4) then some (.inr h) else ((jgr h this 10 1).bind fun r2 => ((jgr h this 10 0).bind fun r4 => ((r4).bind fun a6 => ((jai h a6 (x1 + (x4 * x2))).bind fun v8 => ((r2).bind fun a10 => ((jta h a10 0 x4 v8).bind fun h12 => some (.inl ((x4 + 1), h12)))))))))
def jd_137_l3 (this : Nat) (x1 : Int) (x2 : Int) (x3 : Int) (x4 : Int) (h : jH) : Option jH :=
  jlp (fun s : (Int × jH) => jd_137_s3 this x1 x2 x3 s.1 s.2) jfu (x4, h)
def jd_137_b71 (this : Nat) (x1 : Int) (x2 : Int) (x3 : Int) (x4 : Int) (y0 : Int) (h : jH) : Option ((Int × jH) ⊕ jH) :=
  ((jgr h this 10 1).bind fun r24 => ((r24).bind fun a26 => ((jai h a26 x4).bind fun v28 => ((jgr h this 10 1).bind fun r30 => ((r30).bind fun a32 => ((jai h a32 (x4 - 1)).bind fun v34 => ((r24).bind fun a36 => ((jta h a36 0 x4 (v28 - (jshr (v34 + y0) 1))).bind fun h38 => some (.inl ((x4 + 2), h38))))))))))
def jd_137_s36 (this : Nat) (x1 : Int) (x2 : Int) (x3 : Int) (x4 : Int) (h : jH) : Option ((Int × jH) ⊕ jH) :=
  (if (jw x3) ≤ (jw x4) then some (.inr h) else (if (jw x3) ≤ (jw (x4 + 1)) then ((jgr h this 10 1).bind fun r18 => ((r18).bind fun a20 => ((jai h a20 (x4 - 1)).bind fun v22 => jd_137_b71 this x1 x2 x3 x4 v22 h))) else ((jgr h this 10 1).bind fun r40 => ((r40).bind fun a42 => ((jai h a42 (x4 + 1)).bind fun v44 => jd_137_b71 this x1 x2 x3 x4 v44 h)))))
def jd_137_l36 (this : Nat) (x1 : Int) (x2 : Int) (x3 : Int) (x4 : Int) (h : jH) : Option jH :=
  jlp (fun s : (Int × jH) => jd_137_s36 this x1 x2 x3 s.1 s.2) jfu (x4, h)
def jd_137_b138 (this : Nat) (x1 : Int) (x2 : Int) (x3 : Int) (x4 : Int) (y0 : Int) (h : jH) : Option ((Int × jH) ⊕ jH) :=
  ((jgr h this 10 1).bind fun r56 => ((r56).bind fun a58 => ((jai h a58 x4).bind fun v60 => ((jgr h this 10 1).bind fun r62 => ((r62).bind fun a64 => ((jai h a64 (x4 + 1)).bind fun v66 => ((r56).bind fun a68 => ((jta h a68 0 x4 (v60 + (jshr ((y0 + v66) + 2) 2))).bind fun h70 => some (.inl ((x4 + 2), h70))))))))))
def jd_137_s106 (this : Nat) (x1 : Int) (x2 : Int) (x3 : Int) (x4 : Int) (h : jH) : Option ((Int × jH) ⊕ jH) :=
  (if (jw x3) ≤ (jw x4) then some (.inr h) else (if (jw x4) ≤ 0 then ((jgr h this 10 1).bind fun r50 => ((r50).bind fun a52 => ((jai h a52 (x4 + 1)).bind fun v54 => jd_137_b138 this x1 x2 x3 x4 v54 h))) else ((jgr h this 10 1).bind fun r72 => ((r72).bind fun a74 => ((jai h a74 (x4 - 1)).bind fun v76 => jd_137_b138 this x1 x2 x3 x4 v76 h)))))
def jd_137_l106 (this : Nat) (x1 : Int) (x2 : Int) (x3 : Int) (x4 : Int) (h : jH) : Option jH :=
  jlp (fun s : (Int × jH) => jd_137_s106 this x1 x2 x3 s.1 s.2) jfu (x4, h)
def jd_137_b203 (this : Nat) (x1 : Int) (x2 : Int) (x3 : Int) (x4 : Int) (y0 : Int) (h : jH) : Option ((Int × jH) ⊕ jH) :=
  ((jgr h this 10 0).bind fun r81 => ((jgr h this 10 1).bind fun r83 => ((r83).bind fun a85 => ((jai h a85 x4).bind fun v87 => ((r81).bind fun a89 => ((jta h a89 0 (x1 + (y0 * x2)) v87).bind fun h91 => some (.inl ((x4 + 1), h91))))))))
def jd_137_s175 (this : Nat) (x1 : Int) (x2 : Int) (x3 : Int) (x4 : Int) (h : jH) : Option ((Int × jH) ⊕ jH) :=
  (if (jw x3) ≤ (jw x4) then some (.inr h) else jd_137_b203 this x1 x2 x3 x4 (if (jw (jand x4 1)) = 0 then (jdiv x4 2) else ((jdiv x3 2) + (jdiv x4 2))) h)
def jd_137_l175 (this : Nat) (x1 : Int) (x2 : Int) (x3 : Int) (x4 : Int) (h : jH) : Option jH :=
  jlp (fun s : (Int × jH) => jd_137_s175 this x1 x2 x3 s.1 s.2) jfu (x4, h)
def jd_137 (this : Nat) (p0 : Int) (p1 : Int) (p2 : Int) (h : jH) : Option jH :=
  ((jd_137_l3 this p0 p1 p2 0 h).bind fun x14 => ((jd_137_l36 this p0 p1 p2 1 x14).bind fun x46 => ((jd_137_l106 this p0 p1 p2 0 x46).bind fun x78 => ((jd_137_l175 this p0 p1 p2 0 x78).bind fun x95 => some x95))))
def jd_135_s3 (this : Nat) (x1 : Int) (x2 : Int) (x3 : Int) (x4 : Int) (h : jH) : Option ((Int × jH) ⊕ jH) :=
  (if (jw x3) ≤ (jw x4) then some (.inr h) else ((jck h this 10).bind fun u2 => ((jd_137 this (x4 * x1) 1 x2 h).bind fun h4 => some (.inl ((x4 + 1), h4)))))
def jd_135_l3 (this : Nat) (x1 : Int) (x2 : Int) (x3 : Int) (x4 : Int) (h : jH) : Option jH :=
  jlp (fun s : (Int × jH) => jd_135_s3 this x1 x2 x3 s.1 s.2) jfu (x4, h)
def jd_135_s28 (this : Nat) (x1 : Int) (x2 : Int) (x3 : Int) (x4 : Int) (h : jH) : Option ((Int × jH) ⊕ jH) :=
  (if (jw x2) ≤ (jw x4) then some (.inr h) else ((jck h this 10).bind fun u9 => ((jd_137 this x4 x1 x3 h).bind fun h11 => some (.inl ((x4 + 1), h11)))))
def jd_135_l28 (this : Nat) (x1 : Int) (x2 : Int) (x3 : Int) (x4 : Int) (h : jH) : Option jH :=
  jlp (fun s : (Int × jH) => jd_135_s28 this x1 x2 x3 s.1 s.2) jfu (x4, h)
def jd_135 (this : Nat) (p0 : Int) (p1 : Int) (p2 : Int) (h : jH) : Option jH :=
  ((jd_135_l3 this p0 p1 p2 0 h).bind fun x6 => ((jd_135_l28 this p0 p1 p2 0 x6).bind fun x13 => some x13))
def jd_134_s31 (this : Nat) (x1 : Option Nat) (x2 : Option Nat) (x4 : Int) (x5 : Int) (x6 : Int) (x7 : Int) (x8 : Int) (h : jH) : Option ((Int × jH) ⊕ jH) :=
  (if (jw x6) ≤ (jw x8) then some (.inr h) else ((jgr h this 10 0).bind fun r20 => ((x2).bind fun a22 => ((jgr h a22 6 2).bind fun r24 => ((r24).bind fun a26 => ((jai h a26 (x7 + x8)).bind fun v28 => ((r20).bind fun a30 => ((jta h a30 0 x8 v28).bind fun h32 => some (.inl ((x8 + 1), h32))))))))))
def jd_134_l31 (this : Nat) (x1 : Option Nat) (x2 : Option Nat) (x4 : Int) (x5 : Int) (x6 : Int) (x7 : Int) (x8 : Int) (h : jH) : Option jH :=
  jlp (fun s : (Int × jH) => jd_134_s31 this x1 x2 x4 x5 x6 x7 s.1 s.2) jfu (x8, h)
def jd_134_b137 (this : Nat) (x1 : Option Nat) (x6 : Int) (x8 : Int) (x9 : Int) (h : jH) : Option ((Int × Int × jH) ⊕ (Int × jH)) :=
  some (.inl (x8, (x9 + 1), h))
def jd_134_s91 (this : Nat) (x1 : Option Nat) (x6 : Int) (x8 : Int) (x9 : Int) (h : jH) : Option ((Int × Int × jH) ⊕ (Int × jH)) :=
  (if (jw x6) ≤ (jw x9) then some (.inr (x8, h)) else ((jgr h this 10 0).bind fun r45 => ((r45).bind fun a47 => ((jai h a47 x9).bind fun v49 => (if (jw v49) = 0 then jd_134_b137 this x1 x6 (x8 + 1) x9 h else ((x1).bind fun a52 => ((jck h a52 0).bind fun u54 => ((jd_9 a52 x8 h).bind fun h56 => ((jgr h56 this 10 0).bind fun r58 => ((r58).bind fun a60 => ((jai h56 a60 x9).bind fun v62 => ((x1).bind fun a64 => ((jck h56 a64 0).bind fun u66 => ((jd_9 a64 (jd_12 v62) h56).bind fun h68 => jd_134_b137 this x1 x6 0 x9 h68))))))))))))))
def jd_134_l91 (this : Nat) (x1 : Option Nat) (x6 : Int) (x8 : Int) (x9 : Int) (h : jH) : Option (Int × jH) :=
  jlp (fun s : (Int × Int × jH) => jd_134_s91 this x1 x6 s.1 s.2.1 s.2.2) jfu (x8, x9, h)
def jd_134_b154 (this : Nat)  (h : jH) : Option jH :=
  some h
def jd_134 (this : Nat) (p0 : Option Nat) (p1 : Option Nat) (p2 : Int) (h : jH) : Option jH :=
  ((p1).bind fun a1 => ((jck h a1 6).bind fun u3 => ((jd_96 a1 p2 h).bind fun v5 => ((p1).bind fun a7 => ((jck h a7 6).bind fun u9 => ((jd_97 a7 p2 h).bind fun v11 => ((p1).bind fun a13 => ((jck h a13 6).bind fun u15 => ((jd_98 a13 p2 h).bind fun v17 => ((jd_134_l31 this p0 p1 v5 v11 (v5 * v11) v17 0 h).bind fun x34 => ((jck x34 this 10).bind fun u36 => ((jd_135 this v5 v5 v11 x34).bind fun h38 => ((jck h38 this 10).bind fun u40 => ((jd_135 this v5 (jdiv v5 2) (jdiv v11 2) h38).bind fun h42 => ((jd_134_l91 this p0 (v5 * v11) 0 0 h42).bind fun x70 => (if (jw x70.1) ≤ 0 then jd_134_b154 this  x70.2 else ((p0).bind fun a73 => ((jck x70.2 a73 0).bind fun u75 => ((jd_9 a73 x70.1 x70.2).bind fun h77 => jd_134_b154 this  h77)))))))))))))))))))
def jd_67_b102 (this : Nat) (x1 : Option Nat) (x2 : Int) (x3 : Int) (x4 : Option Nat) (x5 : Int) (h : jH) : Option ((Int × jH) ⊕ jH) :=
  some (.inl ((x5 + 1), h))
def jd_67_s48 (this : Nat) (x1 : Option Nat) (x2 : Int) (x3 : Int) (x4 : Option Nat) (x5 : Int) (h : jH) : Option ((Int × jH) ⊕ jH) :=
  (if 3 ≤ (jw x5) then some (.inr h) else (if (jw x2) = 1 then ((jgr h this 4 2).bind fun r24 => ((jgr h this 4 0).bind fun r26 => ((jgr h this 4 4).bind fun r28 => ((r28).bind fun a30 => ((jar h a30 6 x3).bind fun r32 => ((r24).bind fun a34 => ((jck h a34 10).bind fun u36 => ((jd_134 a34 r26 r32 x5 h).bind fun h38 => jd_67_b102 this x1 x2 x3 x4 x5 h38)))))))) else ((jgr h this 4 3).bind fun r40 => ((jgr h this 4 0).bind fun r42 => ((jgr h this 4 4).bind fun r44 => ((r44).bind fun a46 => ((jar h a46 6 x3).bind fun r48 => ((r40).bind fun a50 => ((jck h a50 9).bind fun u52 => ((jd_126 a50 r42 r48 x5 x4 h).bind fun h54 => jd_67_b102 this x1 x2 x3 x4 x5 h54))))))))))
