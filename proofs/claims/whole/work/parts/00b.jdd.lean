def jd_15 (this : Nat)  (h : jH) : Option jH :=
  ((jnw h 5).bind fun n1 => ((jd_72 n1.1 n1.2).bind fun h3 => ((jpr h3 this 1 0 (some n1.1)).bind fun h5 => ((jnw h5 0).bind fun n7 => ((jd_0 n7.1 n7.2).bind fun h9 => ((jpr h9 this 1 1 (some n7.1)).bind fun h11 => ((jna h11 0 96).bind fun n13 => ((jpr n13.2 this 1 2 (some n13.1)).bind fun h15 => ((jna h15 0 96).bind fun n17 => ((jpr n17.2 this 1 3 (some n17.1)).bind fun h19 => ((jna h19 0 96).bind fun n21 => ((jpr n21.2 this 1 4 (some n21.1)).bind fun h23 => ((jna h23 0 4).bind fun n25 => ((jpr n25.2 this 1 5 (some n25.1)).bind fun h27 => ((jna h27 0 4).bind fun n29 => ((jpr n29.2 this 1 6 (some n29.1)).bind fun h31 => ((jpi h31 this 1 7 0).bind fun h33 => ((jpi h33 this 1 8 0).bind fun h35 => some h35))))))))))))))))))
def jd_84_b101 (x0 : Option Nat) (x2 : Int) (x3 : Int) (x4 : Int) (x5 : Int) (x6 : Int) (x7 : Int) (x8 : Int) (y0 : Int) (y1 : Int) (y2 : Int) (y3 : Int) (y4 : Option Nat) (h : jH) : Option ((Int × jH) ⊕ jH) :=
  ((y4).bind fun a6 => ((jta h a6 0 y3 (y2 + (y1 * y0))).bind fun h8 => some (.inl ((x8 + 1), h8))))
def jd_84_b63 (x0 : Option Nat) (x2 : Int) (x3 : Int) (x4 : Int) (x5 : Int) (x6 : Int) (x7 : Int) (x8 : Int) (x10 : Int) (y0 : Int) (y1 : Int) (y2 : Int) (y3 : Int) (y4 : Option Nat) (h : jH) : Option ((Int × jH) ⊕ jH) :=
  ((y4).bind fun a2 => ((jta h a2 0 y3 (y2 + (y1 * y0))).bind fun h4 => jd_84_b101 x0 x2 x3 x4 x5 x6 x7 x8 (if 0 ≤ (jw x10) then (if (jw x10) < (jw x4) then x10 else (x4 - 1)) else 0) x5 x6 (8 + x8) x0 h4))
def jd_84_s10 (x0 : Option Nat) (x2 : Int) (x3 : Int) (x4 : Int) (x5 : Int) (x6 : Int) (x7 : Int) (x8 : Int) (h : jH) : Option ((Int × jH) ⊕ jH) :=
  (if (jw x2) ≤ (jw x8) then some (.inr h) else jd_84_b63 x0 x2 x3 x4 x5 x6 x7 x8 ((x7 + x8) + (jand x3 1)) (if 0 ≤ (jw (x7 + x8)) then (if (jw (x7 + x8)) < (jw x4) then (x7 + x8) else (x4 - 1)) else 0) x5 x6 x8 x0 h)
def jd_84_l10 (x0 : Option Nat) (x2 : Int) (x3 : Int) (x4 : Int) (x5 : Int) (x6 : Int) (x7 : Int) (x8 : Int) (h : jH) : Option jH :=
  jlp (fun s : (Int × jH) => jd_84_s10 x0 x2 x3 x4 x5 x6 x7 s.1 s.2) jfu (x8, h)
def jd_84 (p0 : Option Nat) (p1 : Int) (p2 : Int) (p3 : Int) (p4 : Int) (p5 : Int) (p6 : Int) (h : jH) : Option jH :=
  ((jd_84_l10 p0 p2 p3 p4 p5 p6 (p1 + (jshr p3 1)) 0 h).bind fun x16 => some x16)
def jd_85_b137 (this : Nat) (x1 : Option Nat) (x2 : Int) (x4 : Int) (x5 : Option Nat) (x6 : Int) (x7 : Int) (x8 : Int) (x9 : Int) (x10 : Int) (h : jH) : Option ((Int × jH) ⊕ jH) :=
  ((x5).bind fun a35 => ((jta h a35 0 (x6 + x9) x10).bind fun h37 => some (.inl ((x9 + 1), h37))))
def jd_85_s22 (this : Nat) (x1 : Option Nat) (x2 : Int) (x4 : Int) (x5 : Option Nat) (x6 : Int) (x7 : Int) (x8 : Int) (x9 : Int) (h : jH) : Option ((Int × jH) ⊕ jH) :=
  (if (jw x4) ≤ (jw x9) then some (.inr h) else ((jgr h this 5 14).bind fun r14 => ((r14).bind fun a16 => ((jai h a16 x9).bind fun v18 => ((x1).bind fun a20 => ((jai h a20 (x7 + v18)).bind fun v22 => (if (jw x2) = 1 then ((jgr h this 5 14).bind fun r25 => ((r25).bind fun a27 => ((jai h a27 (8 + x9)).bind fun v29 => ((x1).bind fun a31 => ((jai h a31 (x8 + v29)).bind fun v33 => jd_85_b137 this x1 x2 x4 x5 x6 x7 x8 x9 (jdiv ((v22 + v33) + 1) 2) h))))) else (if (jw x2) = 2 then ((jgr h this 5 14).bind fun r40 => ((r40).bind fun a42 => ((jai h a42 (8 + x9)).bind fun v44 => ((x1).bind fun a46 => ((jai h a46 (x7 + v44)).bind fun v48 => ((jgr h this 5 14).bind fun r50 => ((r50).bind fun a52 => ((jai h a52 x9).bind fun v54 => ((x1).bind fun a56 => ((jai h a56 (x8 + v54)).bind fun v58 => ((jgr h this 5 14).bind fun r60 => ((r60).bind fun a62 => ((jai h a62 (8 + x9)).bind fun v64 => ((x1).bind fun a66 => ((jai h a66 (x8 + v64)).bind fun v68 => ((some (jdiv (((v22 + (v48 + v58)) + v68) + 2) 4)).bind fun z70 => jd_85_b137 this x1 x2 x4 x5 x6 x7 x8 x9 z70 h)))))))))))))))) else jd_85_b137 this x1 x2 x4 x5 x6 x7 x8 x9 v22 h))))))))
def jd_85_l22 (this : Nat) (x1 : Option Nat) (x2 : Int) (x4 : Int) (x5 : Option Nat) (x6 : Int) (x7 : Int) (x8 : Int) (x9 : Int) (h : jH) : Option jH :=
  jlp (fun s : (Int × jH) => jd_85_s22 this x1 x2 x4 x5 x6 x7 x8 s.1 s.2) jfu (x9, h)
def jd_85 (this : Nat) (p0 : Option Nat) (p1 : Int) (p2 : Int) (p3 : Int) (p4 : Option Nat) (p5 : Int) (h : jH) : Option jH :=
  ((jgr h this 5 15).bind fun r1 => ((r1).bind fun a3 => ((jai h a3 p2).bind fun v5 => ((jgr h this 5 15).bind fun r7 => ((r7).bind fun a9 => ((jai h a9 (8 + p2)).bind fun v11 => ((jd_85_l22 this p0 p1 p3 p4 p5 v5 v11 0 h).bind fun x72 => some x72)))))))
def jd_83_s132 (this : Nat) (x1 : Option Nat) (x3 : Option Nat) (x4 : Int) (x5 : Int) (x6 : Int) (x8 : Int) (x7 : Int) (x9 : Int) (h : jH) : Option ((Int × Int) ⊕ Int) :=
  (if (jw ((8 * x8) + 8)) ≤ (jw x9) then some (.inr x7) else ((x3).bind fun a51 => ((jai h a51 x9).bind fun v53 => ((jgr h this 5 8).bind fun r55 => ((r55).bind fun a57 => ((jai h a57 x9).bind fun v59 => ((some (x7 + (if 0 ≤ jw (v53 - v59) then (v53 - v59) else -(v53 - v59)))).bind fun z61 => some (.inl (z61, (x9 + 1))))))))))
def jd_83_l132 (this : Nat) (x1 : Option Nat) (x3 : Option Nat) (x4 : Int) (x5 : Int) (x6 : Int) (x8 : Int) (x7 : Int) (x9 : Int) (h : jH) : Option Int :=
  jlp (fun s : (Int × Int) => jd_83_s132 this x1 x3 x4 x5 x6 x8 s.1 s.2 h) jfu (x7, x9)
def jd_83_s81 (this : Nat) (x1 : Option Nat) (x3 : Option Nat) (x4 : Int) (x5 : Int) (x6 : Int) (x7 : Int) (x8 : Int) (h : jH) : Option ((Int × Int × jH) ⊕ (Int × jH)) :=
  (if 8 ≤ (jw x8) then some (.inr (x7, h)) else (if (jw x4) ≤ (jw x7) then some (.inr (x7, h)) else ((x1).bind fun a40 => ((jgr h a40 6 2).bind fun r42 => ((jgr h this 5 8).bind fun r44 => ((jck h this 5).bind fun u46 => ((jd_85 this r42 ((jand x5 1) + (jand x6 1)) x8 8 r44 (8 * x8) h).bind fun h48 => ((jd_83_l132 this x1 x3 x4 x5 x6 x8 x7 (8 * x8) h48).bind fun x63 => some (.inl (x63, (x8 + 1), h48))))))))))
def jd_83_l81 (this : Nat) (x1 : Option Nat) (x3 : Option Nat) (x4 : Int) (x5 : Int) (x6 : Int) (x7 : Int) (x8 : Int) (h : jH) : Option (Int × jH) :=
  jlp (fun s : (Int × Int × jH) => jd_83_s81 this x1 x3 x4 x5 x6 s.1 s.2.1 s.2.2) jfu (x7, x8, h)
def jd_83 (this : Nat) (p0 : Option Nat) (p1 : Int) (p2 : Option Nat) (p3 : Int) (h : jH) : Option (Int × jH) :=
  (if p0 = none then some (0, h) else ((jgr h this 5 11).bind fun r2 => ((r2).bind fun a4 => ((jai h a4 p1).bind fun v6 => ((jgr h this 5 11).bind fun r8 => ((r8).bind fun a10 => ((jai h a10 (p1 + 1)).bind fun v12 => ((jgr h this 5 14).bind fun r14 => ((jgi h this 5 5).bind fun v16 => ((p0).bind fun a18 => ((jgi h a18 6 0).bind fun v20 => ((jd_84 r14 (v16 * 8) 8 v6 v20 1 0 h).bind fun h22 => ((jgr h22 this 5 15).bind fun r24 => ((jgi h22 this 5 6).bind fun v26 => ((p0).bind fun a28 => ((jgi h22 a28 6 1).bind fun v30 => ((p0).bind fun a32 => ((jgi h22 a32 6 0).bind fun v34 => ((jd_84 r24 (v26 * 8) 8 v12 v30 v34 0 h22).bind fun h36 => ((jd_83_l81 this p0 p2 p3 v6 v12 0 0 h36).bind fun x65 => some (x65.1, x65.2)))))))))))))))))))))
def jd_17_b135 (this : Nat) (x1 : Option Nat) (x2 : Int) (x3 : Int) (x4 : Int) (x5 : Int) (x6 : Int) (h : jH) : Option ((Int × Int × jH) ⊕ (Int × jH)) :=
  some (.inl (x4, (x6 + 1), h))
def jd_17_s18 (this : Nat) (x1 : Option Nat) (x2 : Int) (x3 : Int) (x5 : Int) (x4 : Int) (x6 : Int) (h : jH) : Option ((Int × Int × jH) ⊕ (Int × jH)) :=
  (if (jw x3) < (jw x6) then some (.inr (x4, h)) else ((jgr h this 1 0).bind fun r3 => ((r3).bind fun a5 => ((jgr h a5 5 11).bind fun r7 => ((r7).bind fun a9 => ((jta h a9 0 x2 x6).bind fun h11 => ((jgr h11 this 1 0).bind fun r13 => ((r13).bind fun a15 => ((jgr h11 a15 5 11).bind fun r17 => ((r17).bind fun a19 => ((jta h11 a19 0 (x2 + 1) x5).bind fun h21 => ((jgr h21 this 1 0).bind fun r23 => ((r23).bind fun a25 => ((jgr h21 a25 5 12).bind fun r27 => ((r27).bind fun a29 => ((jai h21 a29 x2).bind fun v31 => ((jd_13 (x6 - v31)).bind fun v33 => ((jgr h21 this 1 0).bind fun r35 => ((r35).bind fun a37 => ((jgr h21 a37 5 12).bind fun r39 => ((r39).bind fun a41 => ((jai h21 a41 (x2 + 1)).bind fun v43 => ((jd_13 (x5 - v43)).bind fun v45 => ((jgr h21 this 1 0).bind fun r47 => ((jgr h21 this 1 2).bind fun r49 => ((r47).bind fun a51 => ((jck h21 a51 5).bind fun u53 => ((jd_83 a51 x1 x2 r49 (x4 - (v33 + v45)) h21).bind fun q55 => (if (jw x4) ≤ (jw ((v33 + v45) + q55.1)) then jd_17_b135 this x1 x2 x3 x4 x5 x6 q55.2 else ((jgr q55.2 this 1 6).bind fun r58 => ((r58).bind fun a60 => ((jta q55.2 a60 0 x2 x6).bind fun h62 => ((jgr h62 this 1 6).bind fun r64 => ((r64).bind fun a66 => ((jta h62 a66 0 (x2 + 1) x5).bind fun h68 => jd_17_b135 this x1 x2 x3 ((v33 + v45) + q55.1) x5 x6 h68)))))))))))))))))))))))))))))))))))
def jd_17_l18 (this : Nat) (x1 : Option Nat) (x2 : Int) (x3 : Int) (x5 : Int) (x4 : Int) (x6 : Int) (h : jH) : Option (Int × jH) :=
  jlp (fun s : (Int × Int × jH) => jd_17_s18 this x1 x2 x3 x5 s.1 s.2.1 s.2.2) jfu (x4, x6, h)
def jd_17_s8 (this : Nat) (x1 : Option Nat) (x2 : Int) (x3 : Int) (x4 : Int) (x5 : Int) (h : jH) : Option ((Int × Int × jH) ⊕ jH) :=
  (if (jw x3) < (jw x5) then some (.inr h) else ((jd_17_l18 this x1 x2 x3 x5 x4 (-x3) h).bind fun x70 => some (.inl (x70.1, (x5 + 1), x70.2))))
def jd_17_l8 (this : Nat) (x1 : Option Nat) (x2 : Int) (x3 : Int) (x4 : Int) (x5 : Int) (h : jH) : Option jH :=
  jlp (fun s : (Int × Int × jH) => jd_17_s8 this x1 x2 x3 s.1 s.2.1 s.2.2) jfu (x4, x5, h)
def jd_17 (this : Nat) (p0 : Option Nat) (p1 : Int) (p2 : Int) (h : jH) : Option jH :=
  ((jd_17_l8 this p0 p1 p2 2147483647 (-p2) h).bind fun x72 => some x72)
def jd_76_b35 (this : Nat) (y0 : Int) (h : jH) : Option Int :=
  some y0
def jd_76 (this : Nat) (p0 : Int) (h : jH) : Option Int :=
  ((jgi h this 5 0).bind fun v1 => (if (jw v1) = 2 then some p0 else ((jgi h this 5 0).bind fun v4 => jd_76_b35 this (if (jw v4) = 0 then (p0 + 4) else (if 2 ≤ (jw p0) then (p0 + 2) else p0)) h)))
def jd_77 (p0 : Int) (p1 : Int) : Int := (if (jw p0) = 3 then 1 else (if 2 ≤ (jw p1) then (if (jw p0) = 2 then 1 else 0) else (if (jw p0) = 1 then 1 else 0)))
def jd_89_s7 (this : Nat) (x1 : Int) (x2 : Int) (x3 : Int) (h : jH) : Option ((Int × Int) ⊕ Int) :=
  (if (jw ((16 * x1) + 16)) ≤ (jw x3) then some (.inr x2) else ((jgr h this 5 10).bind fun r2 => ((r2).bind fun a4 => ((jai h a4 x3).bind fun v6 => ((some (x2 + (if (jw v6) = 0 then 0 else 1))).bind fun z8 => some (.inl (z8, (x3 + 1))))))))
def jd_89_l7 (this : Nat) (x1 : Int) (x2 : Int) (x3 : Int) (h : jH) : Option Int :=
  jlp (fun s : (Int × Int) => jd_89_s7 this x1 s.1 s.2 h) jfu (x2, x3)
def jd_89 (this : Nat) (p0 : Int) (h : jH) : Option Int :=
  ((jd_89_l7 this p0 0 (16 * p0) h).bind fun x12 => some x12)
def jd_20_b60 (this : Nat) (x1 : Option Nat) (x3 : Int) (x4 : Int) (h : jH) : Option ((Int × jH) ⊕ jH) :=
  some (.inl ((x4 + 1), h))
def jd_20_s17 (this : Nat) (x1 : Option Nat) (x3 : Int) (x4 : Int) (h : jH) : Option ((Int × jH) ⊕ jH) :=
  (if 4 ≤ (jw x4) then some (.inr h) else (if (jw (jd_77 x3 x4)) = 0 then jd_20_b60 this x1 x3 x4 h else ((jgr h this 1 0).bind fun r17 => ((r17).bind fun a19 => ((jgr h a19 5 11).bind fun r21 => ((r21).bind fun a23 => ((jai h a23 x4).bind fun v25 => ((jgr h this 1 0).bind fun r27 => ((r27).bind fun a29 => ((jgr h a29 5 12).bind fun r31 => ((r31).bind fun a33 => ((jai h a33 x4).bind fun v35 => ((x1).bind fun a37 => ((jck h a37 0).bind fun u39 => ((jd_9 a37 (jd_12 (v25 - v35)) h).bind fun h41 => jd_20_b60 this x1 x3 x4 h41)))))))))))))))
def jd_20_l17 (this : Nat) (x1 : Option Nat) (x3 : Int) (x4 : Int) (h : jH) : Option jH :=
  jlp (fun s : (Int × jH) => jd_20_s17 this x1 x3 s.1 s.2) jfu (x4, h)
def jd_20_b151 (this : Nat) (x1 : Option Nat) (x3 : Int) (x4 : Int) (x5 : Int) (h : jH) : Option ((Int × Int × jH) ⊕ jH) :=
  some (.inl (x4, (x5 + 1), h))
def jd_20_b110 (this : Nat) (x1 : Option Nat) (x3 : Int) (x4 : Int) (x5 : Int) (h : jH) : Option ((Int × Int × jH) ⊕ jH) :=
  ((jgr h this 1 0).bind fun r62 => ((r62).bind fun a64 => ((jgr h a64 5 10).bind fun r66 => ((r66).bind fun a68 => ((jai h a68 x5).bind fun v70 => (if (jw v70) = 0 then jd_20_b151 this x1 x3 (x4 + 1) x5 h else ((x1).bind fun a73 => ((jck h a73 0).bind fun u75 => ((jd_9 a73 x4 h).bind fun h77 => ((x1).bind fun a79 => ((jck h77 a79 0).bind fun u81 => ((jd_9 a79 (jd_12 v70) h77).bind fun h83 => jd_20_b151 this x1 x3 0 x5 h83))))))))))))
def jd_20_s72 (this : Nat) (x1 : Option Nat) (x3 : Int) (x4 : Int) (x5 : Int) (h : jH) : Option ((Int × Int × jH) ⊕ jH) :=
  (if 96 ≤ (jw x5) then some (.inr h) else (if (jw x3) = 0 then some (.inr h) else (if (jw (jrem x5 16)) = 0 then ((jgr h this 1 0).bind fun r48 => ((r48).bind fun a50 => ((jck h a50 5).bind fun u52 => ((jd_89 a50 (jdiv x5 16) h).bind fun v54 => ((x1).bind fun a56 => ((jck h a56 0).bind fun u58 => ((jd_9 a56 v54 h).bind fun h60 => jd_20_b110 this x1 x3 0 x5 h60))))))) else jd_20_b110 this x1 x3 x4 x5 h)))
def jd_20_l72 (this : Nat) (x1 : Option Nat) (x3 : Int) (x4 : Int) (x5 : Int) (h : jH) : Option jH :=
  jlp (fun s : (Int × Int × jH) => jd_20_s72 this x1 x3 s.1 s.2.1 s.2.2) jfu (x4, x5, h)
def jd_20 (this : Nat) (p0 : Option Nat) (p1 : Int) (h : jH) : Option jH :=
  ((jgr h this 1 0).bind fun r1 => ((r1).bind fun a3 => ((jck h a3 5).bind fun u5 => ((jd_76 a3 p1 h).bind fun v7 => ((p0).bind fun a9 => ((jck h a9 0).bind fun u11 => ((jd_9 a9 p1 h).bind fun h13 => ((jd_20_l17 this p0 v7 0 h13).bind fun x43 => ((jd_20_l72 this p0 v7 0 0 x43).bind fun x85 => some x85)))))))))
def jd_78_b65 (this : Nat) (x1 : Int) (x2 : Option Nat) (x3 : Int) (y0 : Int) (y1 : Int) (y2 : Option Nat) (h : jH) : Option ((Int × jH) ⊕ jH) :=
  ((y2).bind fun a9 => ((jta h a9 0 y1 y0).bind fun h11 => some (.inl ((x3 + 1), h11))))
def jd_78_b29 (this : Nat) (x1 : Int) (x2 : Option Nat) (x3 : Int) (y0 : Int) (h : jH) : Option ((Int × jH) ⊕ jH) :=
  ((jgr h this 5 11).bind fun r5 => (if (jw (jd_77 x1 x3)) = 0 then (if (jw y0) = 0 then jd_78_b65 this x1 x2 x3 0 x3 r5 h else ((jgr h this 5 12).bind fun r13 => ((r13).bind fun a15 => ((jai h a15 x3).bind fun v17 => jd_78_b65 this x1 x2 x3 v17 x3 r5 h)))) else ((x2).bind fun a19 => ((jai h a19 x3).bind fun v21 => jd_78_b65 this x1 x2 x3 v21 x3 r5 h))))
def jd_78_s2 (this : Nat) (x1 : Int) (x2 : Option Nat) (x3 : Int) (h : jH) : Option ((Int × jH) ⊕ jH) :=
  (if 4 ≤ (jw x3) then some (.inr h) else (if (jw x1) = 0 then ((jgi h this 5 0).bind fun v3 => jd_78_b29 this x1 x2 x3 (if (jw v3) = 1 then (if 2 ≤ (jw x3) then 0 else 1) else 0) h) else jd_78_b29 this x1 x2 x3 0 h))
def jd_78_l2 (this : Nat) (x1 : Int) (x2 : Option Nat) (x3 : Int) (h : jH) : Option jH :=
  jlp (fun s : (Int × jH) => jd_78_s2 this x1 x2 s.1 s.2) jfu (x3, h)
def jd_78 (this : Nat) (p0 : Int) (p1 : Option Nat) (h : jH) : Option jH :=
  ((jd_78_l2 this p0 p1 0 h).bind fun x26 => some x26)
def jd_81_b75 (this : Nat) (x1 : Int) (x2 : Int) (x3 : Int) (x4 : Int) (x5 : Int) (x6 : Int) (h : jH) : Option ((Int × Int × Int) ⊕ (Int × Int)) :=
  some (.inl (x4, x5, (x6 + 1)))
def jd_81_b44 (this : Nat) (x1 : Int) (x2 : Int) (x3 : Int) (x4 : Int) (x5 : Int) (x6 : Int) (h : jH) : Option ((Int × Int × Int) ⊕ (Int × Int)) :=
  ((jgi h this 5 5).bind fun v5 => (if (jw v5) ≤ 0 then jd_81_b75 this x1 x2 x3 x4 x5 x6 h else ((jgr h this 5 2).bind fun r8 => ((r8).bind fun a10 => ((jgr h a10 6 2).bind fun r12 => ((r12).bind fun a14 => ((jai h a14 ((x3 + (x6 * x2)) - 1)).bind fun v16 => jd_81_b75 this x1 x2 x3 (x4 + v16) (x5 + 1) x6 h)))))))
def jd_81_s9 (this : Nat) (x1 : Int) (x2 : Int) (x3 : Int) (x4 : Int) (x5 : Int) (x6 : Int) (h : jH) : Option ((Int × Int × Int) ⊕ (Int × Int)) :=
  (if (jw x1) ≤ (jw x6) then some (.inr (x4, x5)) else ((jgi h this 5 6).bind fun v2 => (if (jw v2) ≤ 0 then jd_81_b44 this x1 x2 x3 x4 x5 x6 h else ((jgr h this 5 2).bind fun r18 => ((r18).bind fun a20 => ((jgr h a20 6 2).bind fun r22 => ((r22).bind fun a24 => ((jai h a24 ((x3 - x2) + x6)).bind fun v26 => jd_81_b44 this x1 x2 x3 (x4 + v26) (x5 + 1) x6 h))))))))
def jd_81_l9 (this : Nat) (x1 : Int) (x2 : Int) (x3 : Int) (x4 : Int) (x5 : Int) (x6 : Int) (h : jH) : Option (Int × Int) :=
  jlp (fun s : (Int × Int × Int) => jd_81_s9 this x1 x2 x3 s.1 s.2.1 s.2.2 h) jfu (x4, x5, x6)
def jd_81_b102 (this : Nat) (y0 : Int) (h : jH) : Option Int :=
  some y0
def jd_81 (this : Nat) (p0 : Int) (p1 : Int) (p2 : Int) (h : jH) : Option Int :=
  ((jd_81_l9 this p0 p1 p2 0 0 0 h).bind fun x28 => (if (jw x28.2) = 0 then jd_81_b102 this 128 h else ((jnz x28.2).bind fun u31 => jd_81_b102 this (jdiv (x28.1 + (jdiv x28.2 2)) x28.2) h)))
def jd_96_b17 (this : Nat) (y0 : Int) (h : jH) : Option Int :=
  some y0
def jd_96 (this : Nat) (p0 : Int) (h : jH) : Option Int :=
  (if (jw p0) = 0 then ((jgi h this 6 0).bind fun v2 => jd_96_b17 this v2 h) else ((jgi h this 6 0).bind fun v4 => jd_96_b17 this (jdiv v4 2) h))
def jd_98_b32 (this : Nat) (y0 : Int) (h : jH) : Option Int :=
  some y0
def jd_98 (this : Nat) (p0 : Int) (h : jH) : Option Int :=
  ((jgi h this 6 0).bind fun v1 => ((jgi h this 6 1).bind fun v3 => jd_98_b32 this (if (jw p0) = 0 then 0 else (if (jw p0) = 1 then (v1 * v3) else ((v1 * v3) + (jdiv (v1 * v3) 4)))) h))
def jd_80_b161 (this : Nat) (x1 : Int) (x3 : Int) (x4 : Int) (x5 : Int) (x6 : Int) (x7 : Int) (x8 : Int) (x9 : Int) (x10 : Int) (h : jH) : Option ((Int × Int × jH) ⊕ (Int × jH)) :=
  ((jgr h this 5 7).bind fun r37 => ((r37).bind fun a39 => ((jta h a39 0 x7 x10).bind fun h41 => some (.inl ((x7 + 1), (x9 + 1), h41)))))
def jd_80_b131 (this : Nat) (x1 : Int) (x3 : Int) (x4 : Int) (x5 : Int) (x6 : Int) (x7 : Int) (x8 : Int) (x9 : Int) (x10 : Int) (h : jH) : Option ((Int × Int × jH) ⊕ (Int × jH)) :=
  (if (jw x1) ≤ 5 then jd_80_b161 this x1 x3 x4 x5 x6 x7 x8 x9 x10 h else ((jgi h this 5 6).bind fun v43 => (if (jw v43) ≤ 0 then jd_80_b161 this x1 x3 x4 x5 x6 x7 x8 x9 x10 h else ((jgr h this 5 2).bind fun r46 => ((r46).bind fun a48 => ((jgr h a48 6 2).bind fun r50 => ((r50).bind fun a52 => ((jai h a52 ((x5 - x4) + x9)).bind fun v54 => jd_80_b161 this x1 x3 x4 x5 x6 x7 x8 x9 v54 h))))))))
def jd_80_s89 (this : Nat) (x1 : Int) (x3 : Int) (x4 : Int) (x5 : Int) (x6 : Int) (x8 : Int) (x7 : Int) (x9 : Int) (h : jH) : Option ((Int × Int × jH) ⊕ (Int × jH)) :=
  (if (jw x3) ≤ (jw x9) then some (.inr (x7, h)) else (if (jw x1) = 5 then ((jgi h this 5 5).bind fun v33 => (if (jw v33) ≤ 0 then jd_80_b131 this x1 x3 x4 x5 x6 x7 x8 x9 x6 h else ((jgr h this 5 2).bind fun r56 => ((r56).bind fun a58 => ((jgr h a58 6 2).bind fun r60 => ((r60).bind fun a62 => ((jai h a62 ((x5 + (x8 * x4)) - 1)).bind fun v64 => jd_80_b131 this x1 x3 x4 x5 x6 x7 x8 x9 v64 h))))))) else jd_80_b131 this x1 x3 x4 x5 x6 x7 x8 x9 x6 h))
def jd_80_l89 (this : Nat) (x1 : Int) (x3 : Int) (x4 : Int) (x5 : Int) (x6 : Int) (x8 : Int) (x7 : Int) (x9 : Int) (h : jH) : Option (Int × jH) :=
  jlp (fun s : (Int × Int × jH) => jd_80_s89 this x1 x3 x4 x5 x6 x8 s.1 s.2.1 s.2.2) jfu (x7, x9, h)
def jd_80_s80 (this : Nat) (x1 : Int) (x3 : Int) (x4 : Int) (x5 : Int) (x6 : Int) (x7 : Int) (x8 : Int) (h : jH) : Option ((Int × Int × jH) ⊕ jH) :=
  (if (jw x3) ≤ (jw x8) then some (.inr h) else ((jd_80_l89 this x1 x3 x4 x5 x6 x8 x7 0 h).bind fun x66 => some (.inl (x66.1, (x8 + 1), x66.2))))
def jd_80_l80 (this : Nat) (x1 : Int) (x3 : Int) (x4 : Int) (x5 : Int) (x6 : Int) (x7 : Int) (x8 : Int) (h : jH) : Option jH :=
  jlp (fun s : (Int × Int × jH) => jd_80_s80 this x1 x3 x4 x5 x6 s.1 s.2.1 s.2.2) jfu (x7, x8, h)
def jd_80_b68 (this : Nat) (x1 : Int) (x2 : Int) (x3 : Int) (x4 : Int) (x5 : Int) (y0 : Int) (h : jH) : Option jH :=
  ((jst 3 x2).bind fun v28 => ((jd_80_l80 this x1 x3 x4 x5 y0 v28 0 h).bind fun x68 => some x68))
def jd_80 (this : Nat) (p0 : Int) (p1 : Int) (h : jH) : Option jH :=
  ((jgr h this 5 2).bind fun r1 => ((r1).bind fun a3 => ((jck h a3 6).bind fun u5 => ((jd_96 a3 p1 h).bind fun v7 => ((jgr h this 5 2).bind fun r9 => ((r9).bind fun a11 => ((jck h a11 6).bind fun u13 => ((jd_98 a11 p1 h).bind fun v15 => ((jgi h this 5 6).bind fun v17 => ((jgi h this 5 5).bind fun v19 => ((some ((v15 + ((v17 * (if (jw p1) = 0 then 8 else 4)) * v7)) + (v19 * (if (jw p1) = 0 then 8 else 4)))).bind fun z21 => (if (jw p0) = 4 then ((jck h this 5).bind fun u24 => ((jd_81 this (if (jw p1) = 0 then 8 else 4) v7 z21 h).bind fun v26 => jd_80_b68 this p0 p1 (if (jw p1) = 0 then 8 else 4) v7 z21 v26 h)) else jd_80_b68 this p0 p1 (if (jw p1) = 0 then 8 else 4) v7 z21 128 h))))))))))))
def jd_97_b17 (this : Nat) (y0 : Int) (h : jH) : Option Int :=
  some y0
def jd_97 (this : Nat) (p0 : Int) (h : jH) : Option Int :=
  (if (jw p0) = 0 then ((jgi h this 6 1).bind fun v2 => jd_97_b17 this v2 h) else ((jgi h this 6 1).bind fun v4 => jd_97_b17 this (jdiv v4 2) h))
def jd_82_s129 (this : Nat) (x1 : Option Nat) (x2 : Int) (x4 : Option Nat) (x5 : Int) (x6 : Int) (x7 : Int) (x9 : Int) (h : jH) : Option ((Int × jH) ⊕ jH) :=
  (if (jw x5) ≤ (jw x9) then some (.inr h) else ((x1).bind fun a47 => ((jgr h a47 6 2).bind fun r49 => ((jst 3 x2).bind fun v51 => ((jck h this 5).bind fun u53 => ((jd_85 this r49 ((jand x6 1) + (jand x7 1)) x9 x5 x4 (v51 + (x9 * x5)) h).bind fun h55 => some (.inl ((x9 + 1), h55))))))))
def jd_82_l129 (this : Nat) (x1 : Option Nat) (x2 : Int) (x4 : Option Nat) (x5 : Int) (x6 : Int) (x7 : Int) (x9 : Int) (h : jH) : Option jH :=
  jlp (fun s : (Int × jH) => jd_82_s129 this x1 x2 x4 x5 x6 x7 s.1 s.2) jfu (x9, h)
def jd_82_b65 (this : Nat) (x1 : Option Nat) (x2 : Int) (x4 : Option Nat) (x5 : Int) (x6 : Int) (y0 : Int) (h : jH) : Option jH :=
  ((x1).bind fun a16 => ((jck h a16 6).bind fun u18 => ((jd_96 a16 x2 h).bind fun v20 => ((jgr h this 5 14).bind fun r22 => ((jgi h this 5 5).bind fun v24 => ((jd_84 r22 (v24 * x5) x5 x6 v20 1 0 h).bind fun h26 => ((jgr h26 this 5 15).bind fun r28 => ((jgi h26 this 5 6).bind fun v30 => ((x1).bind fun a32 => ((jck h26 a32 6).bind fun u34 => ((jd_97 a32 x2 h26).bind fun v36 => ((x1).bind fun a38 => ((jck h26 a38 6).bind fun u40 => ((jd_98 a38 x2 h26).bind fun v42 => ((jd_84 r28 (v30 * x5) x5 y0 v36 v20 v42 h26).bind fun h44 => ((jd_82_l129 this x1 x2 x4 x5 x6 y0 0 h44).bind fun x57 => some x57))))))))))))))))
def jd_82_b38 (this : Nat) (x1 : Option Nat) (x2 : Int) (x3 : Int) (x4 : Option Nat) (x5 : Int) (y0 : Int) (h : jH) : Option jH :=
  (if (jw x2) = 0 then ((jgr h this 5 11).bind fun r10 => ((r10).bind fun a12 => ((jai h a12 (x3 + 1)).bind fun v14 => jd_82_b65 this x1 x2 x4 x5 y0 v14 h))) else ((jgr h this 5 11).bind fun r59 => ((r59).bind fun a61 => ((jai h a61 (x3 + 1)).bind fun v63 => jd_82_b65 this x1 x2 x4 x5 y0 (jdiv v63 2) h))))
def jd_82 (this : Nat) (p0 : Option Nat) (p1 : Int) (p2 : Int) (p3 : Option Nat) (h : jH) : Option jH :=
  (if p0 = none then some h else (if (jw p1) = 0 then ((jgr h this 5 11).bind fun r3 => ((r3).bind fun a5 => ((jai h a5 p2).bind fun v7 => jd_82_b38 this p0 p1 p2 p3 (if (jw p1) = 0 then 8 else 4) v7 h))) else ((jgr h this 5 11).bind fun r65 => ((r65).bind fun a67 => ((jai h a67 p2).bind fun v69 => jd_82_b38 this p0 p1 p2 p3 (if (jw p1) = 0 then 8 else 4) (jdiv v69 2) h)))))
def jd_79_b118 (this : Nat) (x1 : Int) (x2 : Int) (x3 : Int) (x4 : Int) (h : jH) : Option ((Int × jH) ⊕ jH) :=
  some (.inl ((x4 + 1), h))
def jd_79_b115 (this : Nat) (x1 : Int) (x2 : Int) (x3 : Int) (x4 : Int) (y0 : Option Nat) (y1 : Int) (y2 : Int) (y3 : Option Nat) (h : jH) : Option ((Int × jH) ⊕ jH) :=
  ((jck h this 5).bind fun u11 => ((jd_82 this y3 y2 y1 y0 h).bind fun h13 => jd_79_b118 this x1 x2 x3 x4 h13))
def jd_79_b88 (this : Nat) (x1 : Int) (x2 : Int) (x3 : Int) (x4 : Int) (h : jH) : Option ((Int × jH) ⊕ jH) :=
  (if (jw x3) = 0 then jd_79_b118 this x1 x2 x3 x4 h else ((jgr h this 5 4).bind fun r6 => (if (jw x2) = 0 then ((jgr h this 5 7).bind fun r9 => jd_79_b115 this x1 x2 x3 x4 r9 2 x4 r6 h) else ((jgr h this 5 8).bind fun r15 => jd_79_b115 this x1 x2 x3 x4 r15 2 x4 r6 h))))
def jd_79_b69 (this : Nat) (x1 : Int) (x2 : Int) (x3 : Int) (x4 : Int) (h : jH) : Option ((Int × jH) ⊕ jH) :=
  (if (jw x2) = 0 then jd_79_b88 this x1 x2 x3 x4 h else ((jgr h this 5 3).bind fun r17 => ((jgr h this 5 7).bind fun r19 => ((jck h this 5).bind fun u21 => ((jd_82 this r17 x4 0 r19 h).bind fun h23 => jd_79_b88 this x1 x2 x3 x4 h23)))))
def jd_79_s51 (this : Nat) (x1 : Int) (x2 : Int) (x3 : Int) (x4 : Int) (h : jH) : Option ((Int × jH) ⊕ jH) :=
  (if 3 ≤ (jw x4) then some (.inr h) else (if (jw x1) < 4 then jd_79_b69 this x1 x2 x3 x4 h else ((jck h this 5).bind fun u25 => ((jd_80 this x1 x4 h).bind fun h27 => jd_79_b69 this x1 x2 x3 x4 h27))))
def jd_79_l51 (this : Nat) (x1 : Int) (x2 : Int) (x3 : Int) (x4 : Int) (h : jH) : Option jH :=
  jlp (fun s : (Int × jH) => jd_79_s51 this x1 x2 x3 s.1 s.2) jfu (x4, h)
def jd_79_b174 (this : Nat)  (h : jH) : Option jH :=
  some h
def jd_79_s135 (this : Nat) (x4 : Int) (h : jH) : Option ((Int × jH) ⊕ jH) :=
  (if 96 ≤ (jw x4) then some (.inr h) else ((jgr h this 5 7).bind fun r34 => ((jgr h this 5 7).bind fun r36 => ((r36).bind fun a38 => ((jai h a38 x4).bind fun v40 => ((jgr h this 5 8).bind fun r42 => ((r42).bind fun a44 => ((jai h a44 x4).bind fun v46 => ((r34).bind fun a48 => ((jta h a48 0 x4 (jdiv ((v40 + v46) + 1) 2)).bind fun h50 => some (.inl ((x4 + 1), h50))))))))))))
def jd_79_l135 (this : Nat) (x4 : Int) (h : jH) : Option jH :=
  jlp (fun s : (Int × jH) => jd_79_s135 this s.1 s.2) jfu (x4, h)
def jd_79_b47 (this : Nat) (x1 : Int) (x2 : Int) (y0 : Int) (h : jH) : Option jH :=
  ((jd_79_l51 this x1 x2 y0 0 h).bind fun x29 => (if (jw x2) = 0 then jd_79_b174 this  x29 else (if (jw y0) = 0 then jd_79_b174 this  x29 else ((jd_79_l135 this 0 x29).bind fun x52 => jd_79_b174 this  x52))))
def jd_79_b42 (this : Nat) (x1 : Int) (x2 : Int) (h : jH) : Option jH :=
  jd_79_b47 this x1 x2 1 h
def jd_79_b19 (this : Nat) (x1 : Int) (y0 : Int) (h : jH) : Option jH :=
  (if (jw x1) = 2 then jd_79_b42 this x1 y0 h else (if (jw x1) = 3 then jd_79_b42 this x1 y0 h else (if (jw x1) = 0 then ((jgi h this 5 0).bind fun v56 => jd_79_b47 this x1 y0 (if (jw v56) = 2 then 1 else 0) h) else jd_79_b47 this x1 y0 0 h)))
def jd_79 (this : Nat) (p0 : Int) (h : jH) : Option jH :=
  jd_79_b19 this p0 (if (jw p0) = 1 then 1 else (if (jw p0) = 3 then 1 else (if (jw p0) = 0 then 1 else 0))) h
def jd_90_s2 (this : Nat) (x1 : Int) (h : jH) : Option ((Int × jH) ⊕ jH) :=
  (if 96 ≤ (jw x1) then some (.inr h) else ((jgr h this 5 9).bind fun r2 => ((jgr h this 5 7).bind fun r4 => ((r4).bind fun a6 => ((jai h a6 x1).bind fun v8 => ((r2).bind fun a10 => ((jta h a10 0 x1 v8).bind fun h12 => some (.inl ((x1 + 1), h12)))))))))
def jd_90_l2 (this : Nat) (x1 : Int) (h : jH) : Option jH :=
  jlp (fun s : (Int × jH) => jd_90_s2 this s.1 s.2) jfu (x1, h)
def jd_90 (this : Nat)  (h : jH) : Option jH :=
  ((jd_90_l2 this 0 h).bind fun x14 => some x14)
def jd_86 (p0 : Int) (p1 : Int) : Int := (if (jw p0) < 4 then ((((((jshr p0 1) * 4) + (jshr p1 2)) * 8) + ((jand p0 1) * 4)) + (jand p1 3)) else ((16 * p0) + p1))
def jd_88 (p0 : Option Nat) (p1 : Int) (p2 : Int) (h : jH) : Option jH :=
  ((p0).bind fun a1 => ((jai h a1 p1).bind fun v3 => ((p0).bind fun a5 => ((jai h a5 (p1 + p2)).bind fun v7 => ((p0).bind fun a9 => ((jai h a9 (p1 + (2 * p2))).bind fun v11 => ((p0).bind fun a13 => ((jai h a13 (p1 + (3 * p2))).bind fun v15 => ((p0).bind fun a17 => ((jta h a17 0 p1 (((v3 + v7) + v11) + v15)).bind fun h19 => ((p0).bind fun a21 => ((jta h19 a21 0 (p1 + p2) (((v3 + v7) - v11) - v15)).bind fun h23 => ((p0).bind fun a25 => ((jta h23 a25 0 (p1 + (2 * p2)) (((v3 - v7) - v11) + v15)).bind fun h27 => ((p0).bind fun a29 => ((jta h27 a29 0 (p1 + (3 * p2)) (((v3 - v7) + v11) - v15)).bind fun h31 => some h31))))))))))))))))
def jd_87_s2 (x0 : Option Nat) (x1 : Int) (h : jH) : Option ((Int × jH) ⊕ jH) :=
  (if 16 ≤ (jw x1) then some (.inr h) else ((jd_88 x0 x1 1 h).bind fun h2 => some (.inl ((x1 + 4), h2))))
def jd_87_l2 (x0 : Option Nat) (x1 : Int) (h : jH) : Option jH :=
  jlp (fun s : (Int × jH) => jd_87_s2 x0 s.1 s.2) jfu (x1, h)
def jd_87_s22 (x0 : Option Nat) (x1 : Int) (h : jH) : Option ((Int × jH) ⊕ jH) :=
  (if 4 ≤ (jw x1) then some (.inr h) else ((jd_88 x0 x1 4 h).bind fun h7 => some (.inl ((x1 + 1), h7))))
def jd_87_l22 (x0 : Option Nat) (x1 : Int) (h : jH) : Option jH :=
  jlp (fun s : (Int × jH) => jd_87_s22 x0 s.1 s.2) jfu (x1, h)
def jd_87 (p0 : Option Nat) (h : jH) : Option jH :=
  ((jd_87_l2 p0 0 h).bind fun x4 => ((jd_87_l22 p0 0 x4).bind fun x9 => some x9))
def jd_183 (p0 : Int) : Int := (if 0 ≤ (jw p0) then (if (jw p0) ≤ 255 then p0 else 255) else 0)
def jd_91_s2 (this : Nat) (x1 : Int) (x2 : Int) (h : jH) : Option ((Int × jH) ⊕ jH) :=
  (if 16 ≤ (jw x2) then some (.inr h) else ((jgr h this 5 13).bind fun r2 => ((jst 4 x2).bind fun v4 => ((jgr h this 5 10).bind fun r6 => ((r6).bind fun a8 => ((jai h a8 ((16 * x1) + x2)).bind fun v10 => ((jgi h this 5 1).bind fun v12 => ((r2).bind fun a14 => ((jta h a14 0 v4 (v10 * v12)).bind fun h16 => some (.inl ((x2 + 1), h16)))))))))))
def jd_91_l2 (this : Nat) (x1 : Int) (x2 : Int) (h : jH) : Option jH :=
  jlp (fun s : (Int × jH) => jd_91_s2 this x1 s.1 s.2) jfu (x2, h)
def jd_91_s49 (this : Nat) (x1 : Int) (x2 : Int) (h : jH) : Option ((Int × jH) ⊕ jH) :=
  (if 16 ≤ (jw x2) then some (.inr h) else ((jgr h this 5 9).bind fun r25 => ((jgr h this 5 7).bind fun r27 => ((r27).bind fun a29 => ((jai h a29 (jd_86 x1 x2)).bind fun v31 => ((jgr h this 5 13).bind fun r33 => ((r33).bind fun a35 => ((jai h a35 x2).bind fun v37 => ((r25).bind fun a39 => ((jta h a39 0 (jd_86 x1 x2) (jd_183 (v31 + (jshr (v37 + 8) 4)))).bind fun h41 => some (.inl ((x2 + 1), h41))))))))))))
def jd_91_l49 (this : Nat) (x1 : Int) (x2 : Int) (h : jH) : Option jH :=
  jlp (fun s : (Int × jH) => jd_91_s49 this x1 s.1 s.2) jfu (x2, h)
def jd_91 (this : Nat) (p0 : Int) (h : jH) : Option jH :=
  ((jd_91_l2 this p0 0 h).bind fun x18 => ((jgr x18 this 5 13).bind fun r20 => ((jd_87 r20 x18).bind fun h22 => ((jd_91_l49 this p0 0 h22).bind fun x43 => some x43))))
def jd_92_s2 (this : Nat) (x1 : Int) (x2 : Option Nat) (x3 : Int) (h : jH) : Option ((Int × jH) ⊕ jH) :=
  (if 16 ≤ (jw x3) then some (.inr h) else ((jgr h this 5 13).bind fun r2 => ((x2).bind fun a4 => ((jai h a4 (jd_86 x1 x3)).bind fun v6 => ((jgr h this 5 7).bind fun r8 => ((r8).bind fun a10 => ((jai h a10 (jd_86 x1 x3)).bind fun v12 => ((r2).bind fun a14 => ((jta h a14 0 x3 (v6 - v12)).bind fun h16 => some (.inl ((x3 + 1), h16)))))))))))
def jd_92_l2 (this : Nat) (x1 : Int) (x2 : Option Nat) (x3 : Int) (h : jH) : Option jH :=
  jlp (fun s : (Int × jH) => jd_92_s2 this x1 x2 s.1 s.2) jfu (x3, h)
def jd_92_s58 (this : Nat) (x1 : Int) (x3 : Int) (x4 : Int) (h : jH) : Option ((Int × jH) ⊕ jH) :=
  (if 16 ≤ (jw x4) then some (.inr h) else ((jgr h this 5 13).bind fun r29 => ((jst 4 x4).bind fun v31 => ((r29).bind fun a33 => ((jai h a33 v31).bind fun v35 => ((jgi h this 5 1).bind fun v37 => ((jnz x3).bind fun u39 => ((some (if jw (jdiv ((if 0 ≤ jw v35 then v35 else -v35) + (jdiv v37 2)) x3) < jw 4095 then (jdiv ((if 0 ≤ jw v35 then v35 else -v35) + (jdiv v37 2)) x3) else 4095)).bind fun z41 => ((jgr h this 5 10).bind fun r43 => ((r43).bind fun a45 => ((jta h a45 0 ((16 * x1) + x4) (if 0 ≤ (jw v35) then z41 else (-z41))).bind fun h47 => some (.inl ((x4 + 1), h47)))))))))))))
def jd_92_l58 (this : Nat) (x1 : Int) (x3 : Int) (x4 : Int) (h : jH) : Option jH :=
  jlp (fun s : (Int × jH) => jd_92_s58 this x1 x3 s.1 s.2) jfu (x4, h)
def jd_92 (this : Nat) (p0 : Int) (p1 : Option Nat) (h : jH) : Option jH :=
  ((jd_92_l2 this p0 p1 0 h).bind fun x18 => ((jgr x18 this 5 13).bind fun r20 => ((jd_87 r20 x18).bind fun h22 => ((jgi h22 this 5 1).bind fun v24 => ((some (if jw v24 < jw 1 then 1 else v24)).bind fun z26 => ((jd_92_l58 this p0 z26 0 h22).bind fun x51 => some x51))))))
def jd_18_b79 (this : Nat) (x1 : Int) (x2 : Int) (x3 : Int) (h : jH) : Option ((Int × jH) ⊕ jH) :=
  some (.inl ((x3 + 1), h))
def jd_18_s38 (this : Nat) (x1 : Int) (x2 : Int) (x3 : Int) (h : jH) : Option ((Int × jH) ⊕ jH) :=
  (if 6 ≤ (jw x3) then some (.inr h) else (if (jw x2) = 0 then some (.inr h) else ((jgr h this 1 0).bind fun r37 => ((jgr h this 1 2).bind fun r39 => ((r37).bind fun a41 => ((jck h a41 5).bind fun u43 => ((jd_92 a41 x3 r39 h).bind fun h45 => ((jgr h45 this 1 0).bind fun r47 => ((r47).bind fun a49 => ((jck h45 a49 5).bind fun u51 => ((jd_89 a49 x3 h45).bind fun v53 => (if (jw v53) ≤ 0 then jd_18_b79 this x1 x2 x3 h45 else ((jgr h45 this 1 0).bind fun r56 => ((r56).bind fun a58 => ((jck h45 a58 5).bind fun u60 => ((jd_91 a58 x3 h45).bind fun h62 => jd_18_b79 this x1 x2 x3 h62))))))))))))))))
def jd_18_l38 (this : Nat) (x1 : Int) (x2 : Int) (x3 : Int) (h : jH) : Option jH :=
  jlp (fun s : (Int × jH) => jd_18_s38 this x1 x2 s.1 s.2) jfu (x3, h)
def jd_18_s128 (this : Nat) (x1 : Int) (x3 : Int) (x4 : Int) (h : jH) : Option ((Int × Int) ⊕ Int) :=
  (if 96 ≤ (jw x4) then some (.inr x3) else ((jgr h this 1 2).bind fun r99 => ((r99).bind fun a101 => ((jai h a101 x4).bind fun v103 => ((jgr h this 1 0).bind fun r105 => ((r105).bind fun a107 => ((jgr h a107 5 9).bind fun r109 => ((r109).bind fun a111 => ((jai h a111 x4).bind fun v113 => ((some (x3 + ((v103 - v113) * (v103 - v113)))).bind fun z115 => some (.inl (z115, (x4 + 1)))))))))))))
def jd_18_l128 (this : Nat) (x1 : Int) (x3 : Int) (x4 : Int) (h : jH) : Option Int :=
  jlp (fun s : (Int × Int) => jd_18_s128 this x1 s.1 s.2 h) jfu (x3, x4)
def jd_18_b244 (this : Nat)  (h : jH) : Option jH :=
  some h
def jd_18_b181 (this : Nat) (x1 : Int) (x3 : Int) (h : jH) : Option jH :=
  ((jpi h this 1 8 x3).bind fun h120 => ((jpi h120 this 1 7 x1).bind fun h122 => ((jgr h122 this 1 0).bind fun r124 => ((r124).bind fun a126 => ((jgr h122 a126 5 9).bind fun r128 => ((jgr h122 this 1 3).bind fun r130 => ((r130).bind fun a132 => ((r128).bind fun a134 => ((jcp h122 a134 0 a132 0 96).bind fun h136 => ((jgr h136 this 1 0).bind fun r138 => ((r138).bind fun a140 => ((jgr h136 a140 5 10).bind fun r142 => ((jgr h136 this 1 4).bind fun r144 => ((r144).bind fun a146 => ((r142).bind fun a148 => ((jcp h136 a148 0 a146 0 96).bind fun h150 => ((jgr h150 this 1 0).bind fun r152 => ((r152).bind fun a154 => ((jgr h150 a154 5 11).bind fun r156 => ((jgr h150 this 1 5).bind fun r158 => ((r158).bind fun a160 => ((r156).bind fun a162 => ((jcp h150 a162 0 a160 0 4).bind fun h164 => jd_18_b244 this  h164)))))))))))))))))))))))
def jd_18 (this : Nat) (p0 : Int) (h : jH) : Option jH :=
  ((jgr h this 1 0).bind fun r1 => ((r1).bind fun a3 => ((jck h a3 5).bind fun u5 => ((jd_76 a3 p0 h).bind fun v7 => ((jgr h this 1 0).bind fun r9 => ((jgr h this 1 6).bind fun r11 => ((r9).bind fun a13 => ((jck h a13 5).bind fun u15 => ((jd_78 a13 v7 r11 h).bind fun h17 => ((jgr h17 this 1 0).bind fun r19 => ((r19).bind fun a21 => ((jck h17 a21 5).bind fun u23 => ((jd_79 a21 v7 h17).bind fun h25 => ((jgr h25 this 1 0).bind fun r27 => ((r27).bind fun a29 => ((jck h25 a29 5).bind fun u31 => ((jd_90 a29 h25).bind fun h33 => ((jd_18_l38 this p0 v7 0 h33).bind fun x64 => ((jgr x64 this 1 1).bind fun r66 => ((r66).bind fun a68 => ((jck x64 a68 0).bind fun u70 => ((jd_7 a68 x64).bind fun h72 => ((jgr h72 this 1 1).bind fun r74 => ((jck h72 this 1).bind fun u76 => ((jd_20 this r74 p0 h72).bind fun h78 => ((jgr h78 this 1 0).bind fun r80 => ((r80).bind fun a82 => ((jgi h78 a82 5 1).bind fun v84 => ((jgr h78 this 1 0).bind fun r86 => ((r86).bind fun a88 => ((jgi h78 a88 5 1).bind fun v90 => ((jgr h78 this 1 1).bind fun r92 => ((r92).bind fun a94 => ((jgi h78 a94 0 1).bind fun v96 => ((jd_18_l128 this p0 ((v84 * v90) * v96) 0 h78).bind fun x117 => (if (jw p0) = 0 then jd_18_b181 this p0 x117 h78 else ((jgi h78 this 1 8).bind fun v166 => (if (jw v166) ≤ (jw x117) then jd_18_b244 this  h78 else jd_18_b181 this p0 x117 h78))))))))))))))))))))))))))))))))))))))
def jd_19 (this : Nat)  (h : jH) : Option jH :=
  ((jgr h this 1 3).bind fun r1 => ((jgr h this 1 0).bind fun r3 => ((r3).bind fun a5 => ((jgr h a5 5 9).bind fun r7 => ((r7).bind fun a9 => ((r1).bind fun a11 => ((jcp h a11 0 a9 0 96).bind fun h13 => ((jgr h13 this 1 4).bind fun r15 => ((jgr h13 this 1 0).bind fun r17 => ((r17).bind fun a19 => ((jgr h13 a19 5 10).bind fun r21 => ((r21).bind fun a23 => ((r15).bind fun a25 => ((jcp h13 a25 0 a23 0 96).bind fun h27 => ((jgr h27 this 1 5).bind fun r29 => ((jgr h27 this 1 0).bind fun r31 => ((r31).bind fun a33 => ((jgr h27 a33 5 11).bind fun r35 => ((r35).bind fun a37 => ((r29).bind fun a39 => ((jcp h27 a39 0 a37 0 4).bind fun h41 => some h41)))))))))))))))))))))
def jd_35_s4 (this : Nat) (x2 : Int) (x3 : Int) (h : jH) : Option (Int ⊕ (Int ⊕ Unit)) :=
  (if (jw x3) < (jw x2) then some (.inr (.inr ())) else ((jgr h this 2 7).bind fun r2 => ((r2).bind fun a4 => ((jai h a4 x3).bind fun v6 => (if (jw v6) = 2 then some (.inl (x3 + (-1))) else some (.inr (.inl x3)))))))
def jd_35_l4 (this : Nat) (x2 : Int) (x3 : Int) (h : jH) : Option (Int ⊕ Unit) :=
  jlp (fun s : Int => jd_35_s4 this x2 s h) jfu x3
def jd_35 (this : Nat) (p0 : Int) (p1 : Int) (h : jH) : Option Int :=
  ((jd_35_l4 this p1 (p0 - 1) h).bind fun x9 => jse x9 (fun y11 => some y11) (fun y12 => some (-1)))
def jd_73_b101 (this : Nat) (y0 : Option Nat) (h : jH) : Option jH :=
  ((jpr h this 5 4 y0).bind fun h52 => some h52)
def jd_73_b100 (this : Nat)  (h : jH) : Option jH :=
  jd_73_b101 this none h
def jd_73_b73 (this : Nat) (x2 : Option Nat) (x5 : Int) (y0 : Option Nat) (h : jH) : Option jH :=
  ((jpr h this 5 3 y0).bind fun h46 => ((jgi h46 this 5 0).bind fun v48 => (if (jw v48) = 2 then (if (jw x5) < 0 then jd_73_b100 this  h46 else ((x2).bind fun a54 => ((jgr h46 a54 2 15).bind fun r56 => ((r56).bind fun a58 => ((jar h46 a58 6 x5).bind fun r60 => jd_73_b101 this r60 h46))))) else jd_73_b100 this  h46)))
def jd_73 (this : Nat) (p0 : Option Nat) (p1 : Option Nat) (p2 : Int) (p3 : Int) (h : jH) : Option jH :=
  ((p0).bind fun a1 => ((jgr h a1 2 7).bind fun r3 => ((r3).bind fun a5 => ((jai h a5 p2).bind fun v7 => ((jpi h this 5 0 v7).bind fun h9 => ((p1).bind fun a11 => ((jgr h9 a11 2 15).bind fun r13 => ((r13).bind fun a15 => ((jar h9 a15 6 p2).bind fun r17 => ((jpr h9 this 5 2 r17).bind fun h19 => ((p0).bind fun a21 => ((jck h19 a21 2).bind fun u23 => ((jd_35 a21 p2 p3 h19).bind fun v25 => ((p0).bind fun a27 => ((jck h19 a27 2).bind fun u29 => ((jd_35 a27 v25 p3 h19).bind fun v31 => ((jgi h19 this 5 0).bind fun v33 => ((some (if (jw v33) = 2 then v31 else v25)).bind fun z35 => (if 0 ≤ (jw z35) then ((p1).bind fun a38 => ((jgr h19 a38 2 15).bind fun r40 => ((r40).bind fun a42 => ((jar h19 a42 6 z35).bind fun r44 => jd_73_b73 this p1 v25 r44 h19)))) else jd_73_b73 this p1 v25 none h19)))))))))))))))))))
def jd_74_b54 (this : Nat) (x3 : Int) (y0 : Int) (y1 : Int) (y2 : Option Nat) (h : jH) : Option ((Int × jH) ⊕ jH) :=
  ((y2).bind fun a21 => ((jta h a21 0 y1 y0).bind fun h23 => some (.inl ((x3 + 1), h23))))
def jd_74_s27 (this : Nat) (x3 : Int) (h : jH) : Option ((Int × jH) ⊕ jH) :=
  (if 4 ≤ (jw x3) then some (.inr h) else ((jgr h this 5 12).bind fun r16 => ((jgi h this 5 5).bind fun v18 => (if (jw v18) = 0 then jd_74_b54 this x3 0 x3 r16 h else ((jgr h this 5 11).bind fun r25 => ((r25).bind fun a27 => ((jai h a27 x3).bind fun v29 => jd_74_b54 this x3 v29 x3 r16 h)))))))
def jd_74_l27 (this : Nat) (x3 : Int) (h : jH) : Option jH :=
  jlp (fun s : (Int × jH) => jd_74_s27 this s.1 s.2) jfu (x3, h)
def jd_74 (this : Nat) (p0 : Int) (h : jH) : Option jH :=
  ((jgr h this 5 2).bind fun r1 => ((r1).bind fun a3 => ((jgi h a3 6 0).bind fun v5 => ((jnz (jdiv v5 8)).bind fun u7 => ((jpi h this 5 5 (jrem p0 (jdiv v5 8))).bind fun h9 => ((jnz (jdiv v5 8)).bind fun u11 => ((jpi h9 this 5 6 (jdiv p0 (jdiv v5 8))).bind fun h13 => ((jd_74_l27 this 0 h13).bind fun x31 => some x31))))))))
def jd_75_b25 (this : Nat) (y0 : Int) (h : jH) : Option Int :=
  some y0
def jd_75 (this : Nat)  (h : jH) : Option Int :=
  ((jgi h this 5 0).bind fun v1 => (if (jw v1) = 0 then jd_75_b25 this 3 h else ((jgi h this 5 0).bind fun v4 => jd_75_b25 this (if (jw v4) = 1 then 5 else 7) h)))
def jd_93_b122 (this : Nat) (x1 : Option Nat) (x2 : Option Nat) (x3 : Int) (x4 : Int) (x5 : Int) (x6 : Int) (x7 : Int) (x8 : Int) (x9 : Int) (h : jH) : Option ((Int × Int × jH) ⊕ jH) :=
  some (.inl ((x8 + x5), (x9 + 1), h))
def jd_93_s68 (this : Nat) (x1 : Option Nat) (x2 : Option Nat) (x3 : Int) (x4 : Int) (x5 : Int) (x6 : Int) (x7 : Int) (x8 : Int) (x9 : Int) (h : jH) : Option ((Int × Int × jH) ⊕ jH) :=
  (if (jw x5) ≤ (jw x9) then some (.inr h) else (if (jw x3) = 0 then ((x1).bind fun a24 => ((jgr h a24 6 2).bind fun r26 => ((x2).bind fun a28 => ((r26).bind fun a30 => ((jcp h a30 (x7 + (x9 * x6)) a28 x8 x5).bind fun h32 => jd_93_b122 this x1 x2 x3 x4 x5 x6 x7 x8 x9 h32))))) else ((x1).bind fun a34 => ((jgr h a34 6 2).bind fun r36 => ((r36).bind fun a38 => ((x2).bind fun a40 => ((jcp h a40 x8 a38 (x7 + (x9 * x6)) x5).bind fun h42 => jd_93_b122 this x1 x2 x3 x4 x5 x6 x7 x8 x9 h42)))))))
def jd_93_l68 (this : Nat) (x1 : Option Nat) (x2 : Option Nat) (x3 : Int) (x4 : Int) (x5 : Int) (x6 : Int) (x7 : Int) (x8 : Int) (x9 : Int) (h : jH) : Option jH :=
  jlp (fun s : (Int × Int × jH) => jd_93_s68 this x1 x2 x3 x4 x5 x6 x7 s.1 s.2.1 s.2.2) jfu (x8, x9, h)
def jd_93_s3 (this : Nat) (x1 : Option Nat) (x2 : Option Nat) (x3 : Int) (x4 : Int) (h : jH) : Option ((Int × jH) ⊕ jH) :=
  (if 3 ≤ (jw x4) then some (.inr h) else ((x1).bind fun a2 => ((jck h a2 6).bind fun u4 => ((jd_96 a2 x4 h).bind fun v6 => ((x1).bind fun a8 => ((jck h a8 6).bind fun u10 => ((jd_98 a8 x4 h).bind fun v12 => ((jgi h this 5 6).bind fun v14 => ((jgi h this 5 5).bind fun v16 => ((some ((v12 + ((v14 * (if (jw x4) = 0 then 8 else 4)) * v6)) + (v16 * (if (jw x4) = 0 then 8 else 4)))).bind fun z18 => ((jst 3 x4).bind fun v20 => ((jd_93_l68 this x1 x2 x3 x4 (if (jw x4) = 0 then 8 else 4) v6 z18 v20 0 h).bind fun x44 => some (.inl ((x4 + 1), x44))))))))))))))
def jd_93_l3 (this : Nat) (x1 : Option Nat) (x2 : Option Nat) (x3 : Int) (x4 : Int) (h : jH) : Option jH :=
  jlp (fun s : (Int × jH) => jd_93_s3 this x1 x2 x3 s.1 s.2) jfu (x4, h)
def jd_93 (this : Nat) (p0 : Option Nat) (p1 : Option Nat) (p2 : Int) (h : jH) : Option jH :=
  ((jd_93_l3 this p0 p1 p2 0 h).bind fun x48 => some x48)
def jd_16_s128 (this : Nat) (x1 : Option Nat) (x4 : Option Nat) (x6 : Int) (x7 : Int) (x8 : Int) (x9 : Int) (h : jH) : Option ((Int × jH) ⊕ jH) :=
  ((jgr h this 1 0).bind fun r72 => ((r72).bind fun a74 => ((jck h a74 5).bind fun u76 => ((jd_75 a74 h).bind fun v78 => (if (jw v78) ≤ (jw x9) then some (.inr h) else ((jck h this 1).bind fun u81 => ((jd_18 this x9 h).bind fun h83 => some (.inl ((x9 + 1), h83)))))))))
def jd_16_l128 (this : Nat) (x1 : Option Nat) (x4 : Option Nat) (x6 : Int) (x7 : Int) (x8 : Int) (x9 : Int) (h : jH) : Option jH :=
  jlp (fun s : (Int × jH) => jd_16_s128 this x1 x4 x6 x7 x8 s.1 s.2) jfu (x9, h)
def jd_16_b125 (this : Nat) (x1 : Option Nat) (x4 : Option Nat) (x6 : Int) (x7 : Int) (x8 : Int) (h : jH) : Option ((Int × jH) ⊕ jH) :=
  ((jd_16_l128 this x1 x4 x6 x7 x8 0 h).bind fun x85 => ((jck x85 this 1).bind fun u87 => ((jd_19 this x85).bind fun h89 => ((jgr h89 this 1 0).bind fun r91 => ((jgr h89 this 1 0).bind fun r93 => ((r93).bind fun a95 => ((jgr h89 a95 5 2).bind fun r97 => ((jgr h89 this 1 0).bind fun r99 => ((r99).bind fun a101 => ((jgr h89 a101 5 9).bind fun r103 => ((r91).bind fun a105 => ((jck h89 a105 5).bind fun u107 => ((jd_93 a105 r97 r103 1 h89).bind fun h109 => ((jgi h109 this 1 7).bind fun v111 => ((jck h109 this 1).bind fun u113 => ((jd_20 this x1 v111 h109).bind fun h115 => some (.inl ((x8 + 1), h115))))))))))))))))))
def jd_16_b100 (this : Nat) (x1 : Option Nat) (x4 : Option Nat) (x6 : Int) (x7 : Int) (x8 : Int) (h : jH) : Option ((Int × jH) ⊕ jH) :=
  ((jgr h this 1 0).bind fun r55 => ((r55).bind fun a57 => ((jgi h a57 5 0).bind fun v59 => (if (jw v59) = 2 then ((jgr h this 1 0).bind fun r62 => ((r62).bind fun a64 => ((jgr h a64 5 4).bind fun r66 => ((jck h this 1).bind fun u68 => ((jd_17 this r66 2 x6 h).bind fun h70 => jd_16_b125 this x1 x4 x6 x7 x8 h70))))) else jd_16_b125 this x1 x4 x6 x7 x8 h))))
def jd_16_s46 (this : Nat) (x1 : Option Nat) (x4 : Option Nat) (x6 : Int) (x7 : Int) (x8 : Int) (h : jH) : Option ((Int × jH) ⊕ jH) :=
  (if (jw x7) ≤ (jw x8) then some (.inr h) else ((jgr h this 1 0).bind fun r30 => ((r30).bind fun a32 => ((jck h a32 5).bind fun u34 => ((jd_74 a32 x8 h).bind fun h36 => ((jgr h36 this 1 0).bind fun r38 => ((jgr h36 this 1 2).bind fun r40 => ((r38).bind fun a42 => ((jck h36 a42 5).bind fun u44 => ((jd_93 a42 x4 r40 0 h36).bind fun h46 => ((jgr h46 this 1 0).bind fun r48 => ((r48).bind fun a50 => ((jgi h46 a50 5 0).bind fun v52 => (if (jw v52) = 0 then jd_16_b100 this x1 x4 x6 x7 x8 h46 else ((jgr h46 this 1 0).bind fun r117 => ((r117).bind fun a119 => ((jgr h46 a119 5 3).bind fun r121 => ((jck h46 this 1).bind fun u123 => ((jd_17 this r121 0 x6 h46).bind fun h125 => jd_16_b100 this x1 x4 x6 x7 x8 h125)))))))))))))))))))
def jd_16_l46 (this : Nat) (x1 : Option Nat) (x4 : Option Nat) (x6 : Int) (x7 : Int) (x8 : Int) (h : jH) : Option jH :=
  jlp (fun s : (Int × jH) => jd_16_s46 this x1 x4 x6 x7 s.1 s.2) jfu (x8, h)
def jd_16 (this : Nat) (p0 : Option Nat) (p1 : Option Nat) (p2 : Int) (p3 : Option Nat) (p4 : Int) (p5 : Int) (h : jH) : Option (Int × jH) :=
  ((p0).bind fun a1 => ((jck h a1 0).bind fun u3 => ((jd_6 a1 h).bind fun h5 => ((jgr h5 this 1 0).bind fun r7 => ((r7).bind fun a9 => ((jck h5 a9 5).bind fun u11 => ((jd_73 a9 p1 p1 p2 0 h5).bind fun h13 => ((jgr h13 this 1 0).bind fun r15 => ((r15).bind fun a17 => ((jpi h13 a17 5 1 p4).bind fun h19 => ((p3).bind fun a21 => ((jgi h19 a21 6 0).bind fun v23 => ((p3).bind fun a25 => ((jgi h19 a25 6 1).bind fun v27 => ((jd_16_l46 this p0 p3 p5 ((jdiv v23 8) * (jdiv v27 8)) 0 h19).bind fun x127 => ((p0).bind fun a129 => ((jck x127 a129 0).bind fun u131 => ((jd_10 a129 x127).bind fun v133 => some (v133, x127)))))))))))))))))))
def jd_21 (this : Nat)  (h : jH) : Option jH :=
  ((jpi h this 2 0 0).bind fun h1 => ((jpi h1 this 2 1 8).bind fun h3 => ((jpi h3 this 2 2 8).bind fun h5 => ((jpi h5 this 2 3 1).bind fun h7 => ((jpi h7 this 2 4 0).bind fun h9 => ((jpr h9 this 2 5 none).bind fun h11 => ((jpi h11 this 2 6 0).bind fun h13 => ((jna h13 0 12).bind fun n15 => ((jpr n15.2 this 2 7 (some n15.1)).bind fun h17 => ((jna h17 0 12).bind fun n19 => ((jpr n19.2 this 2 8 (some n19.1)).bind fun h21 => ((jna h21 0 12).bind fun n23 => ((jpr n23.2 this 2 9 (some n23.1)).bind fun h25 => ((jna h25 0 12).bind fun n27 => ((jpr n27.2 this 2 10 (some n27.1)).bind fun h29 => ((jna h29 0 12).bind fun n31 => ((jpr n31.2 this 2 11 (some n31.1)).bind fun h33 => ((jna h33 0 12).bind fun n35 => ((jpr n35.2 this 2 12 (some n35.1)).bind fun h37 => ((jna h37 2 12).bind fun n39 => ((jpr n39.2 this 2 13 (some n39.1)).bind fun h41 => ((jna h41 2 12).bind fun n43 => ((jpr n43.2 this 2 14 (some n43.1)).bind fun h45 => ((jna h45 6 12).bind fun n47 => ((jpr n47.2 this 2 15 (some n47.1)).bind fun h49 => ((jna h49 0 12).bind fun n51 => ((jpr n51.2 this 2 16 (some n51.1)).bind fun h53 => ((jna h53 0 12).bind fun n55 => ((jpr n55.2 this 2 17 (some n55.1)).bind fun h57 => ((jna h57 0 756).bind fun n59 => ((jpr n59.2 this 2 18 (some n59.1)).bind fun h61 => some h61)))))))))))))))))))))))))))))))
def jd_22_s7 (this : Nat) (x1 : Int) (h : jH) : Option ((Int × jH) ⊕ jH) :=
  (if 12 ≤ (jw x1) then some (.inr h) else ((jgr h this 2 14).bind fun r4 => ((r4).bind fun a6 => ((jta h a6 2 x1 0).bind fun h8 => some (.inl ((x1 + 1), h8))))))
def jd_22_l7 (this : Nat) (x1 : Int) (h : jH) : Option jH :=
  jlp (fun s : (Int × jH) => jd_22_s7 this s.1 s.2) jfu (x1, h)
def jd_22 (this : Nat)  (h : jH) : Option jH :=
  ((jpi h this 2 6 0).bind fun h1 => ((jd_22_l7 this 0 h1).bind fun x10 => some x10))
def jd_25_b57 (this : Nat) (x2 : Option Nat) (h : jH) : Option jH :=
  ((jpr h this 2 5 x2).bind fun h9 => some h9)
def jd_25_b17 (this : Nat) (x1 : Int) (h : jH) : Option jH :=
  ((jna h 1 (if 4000 < (jw x1) then 24067 else 4000)).bind fun n4 => ((jgr n4.2 this 2 5).bind fun r6 => (if r6 = none then jd_25_b57 this (some n4.1) n4.2 else ((jgr n4.2 this 2 5).bind fun r11 => ((jgi n4.2 this 2 6).bind fun v13 => ((r11).bind fun a15 => ((jcp n4.2 a15 0 n4.1 0 v13).bind fun h17 => jd_25_b57 this (some n4.1) h17)))))))
def jd_25 (this : Nat) (p0 : Int) (h : jH) : Option jH :=
  ((jgr h this 2 5).bind fun r1 => (if r1 = none then jd_25_b17 this p0 h else ((jgr h this 2 5).bind fun r22 => ((r22).bind fun a24 => ((jln h a24).bind fun v26 => (if (jw v26) < (jw p0) then jd_25_b17 this p0 h else some h))))))
def jd_23_b48 (this : Nat)  (h : jH) : Option jH :=
  some h
def jd_23 (this : Nat) (p0 : Option Nat) (p1 : Int) (p2 : Int) (h : jH) : Option jH :=
  ((jgi h this 2 6).bind fun v1 => ((jck h this 2).bind fun u3 => ((jd_25 this (v1 + p2) h).bind fun h5 => ((jgi h5 this 2 6).bind fun v7 => ((jgr h5 this 2 5).bind fun r9 => ((r9).bind fun a11 => ((jln h5 a11).bind fun v13 => (if (jw v13) < (jw (v7 + p2)) then jd_23_b48 this  h5 else ((jgr h5 this 2 5).bind fun r16 => ((jgi h5 this 2 6).bind fun v18 => ((r16).bind fun a20 => ((p0).bind fun a22 => ((jcp h5 a22 p1 a20 v18 p2).bind fun h24 => ((jgi h24 this 2 6).bind fun v26 => ((jpi h24 this 2 6 (v26 + p2)).bind fun h28 => jd_23_b48 this  h28)))))))))))))))
def jd_24_b40 (this : Nat)  (h : jH) : Option jH :=
  some h
def jd_24 (this : Nat) (p0 : Int) (h : jH) : Option jH :=
  ((jgi h this 2 6).bind fun v1 => ((jck h this 2).bind fun u3 => ((jd_25 this (v1 + 1) h).bind fun h5 => ((jgi h5 this 2 6).bind fun v7 => ((jgr h5 this 2 5).bind fun r9 => ((r9).bind fun a11 => ((jln h5 a11).bind fun v13 => (if (jw v13) ≤ (jw v7) then jd_24_b40 this  h5 else ((jgr h5 this 2 5).bind fun r16 => ((jgi h5 this 2 6).bind fun v18 => ((jpi h5 this 2 6 (v18 + 1)).bind fun h20 => ((r16).bind fun a22 => ((jta h20 a22 1 v18 (jwb p0)).bind fun h24 => jd_24_b40 this  h24)))))))))))))
def jd_26 (this : Nat) (p0 : Int) (p1 : Option Nat) (p2 : Int) (p3 : Int) (h : jH) : Option jH :=
  ((jst 5 0).bind fun v1 => ((jck h this 2).bind fun u3 => ((jd_24 this v1 h).bind fun h5 => ((jst 5 1).bind fun v7 => ((jck h5 this 2).bind fun u9 => ((jd_24 this v7 h5).bind fun h11 => ((jck h11 this 2).bind fun u13 => ((jd_24 this p0 h11).bind fun h15 => ((p1).bind fun a17 => ((jgi h15 a17 6 0).bind fun v19 => ((jck h15 this 2).bind fun u21 => ((jd_24 this (jdiv v19 8) h15).bind fun h23 => ((p1).bind fun a25 => ((jgi h23 a25 6 1).bind fun v27 => ((jck h23 this 2).bind fun u29 => ((jd_24 this (jdiv v27 8) h23).bind fun h31 => ((jck h31 this 2).bind fun u33 => ((jd_24 this p2 h31).bind fun h35 => ((jck h35 this 2).bind fun u37 => ((jd_24 this p3 h35).bind fun h39 => some h39))))))))))))))))))))
def jd_27 (this : Nat) (p0 : Int) (p1 : Int) (p2 : Option Nat) (p3 : Int) (p4 : Int) (h : jH) : Option jH :=
  ((jgr h this 2 7).bind fun r1 => ((r1).bind fun a3 => ((jai h a3 p0).bind fun v5 => ((jck h this 2).bind fun u7 => ((jd_24 this v5 h).bind fun h9 => ((jgr h9 this 2 8).bind fun r11 => ((r11).bind fun a13 => ((jai h9 a13 p0).bind fun v15 => ((jck h9 this 2).bind fun u17 => ((jd_24 this v15 h9).bind fun h19 => ((jck h19 this 2).bind fun u21 => ((jd_24 this p1 h19).bind fun h23 => ((jck h23 this 2).bind fun u25 => ((jd_24 this (jshr p4 8) h23).bind fun h27 => ((jck h27 this 2).bind fun u29 => ((jd_24 this p4 h27).bind fun h31 => ((jck h31 this 2).bind fun u33 => ((jd_23 this p2 p3 p4 h31).bind fun h35 => some h35))))))))))))))))))
def jd_94 (this : Nat)  (h : jH) : Option jH :=
  ((jpi h this 6 0 8).bind fun h1 => ((jpi h1 this 6 1 8).bind fun h3 => ((jna h3 0 864).bind fun n5 => ((jpr n5.2 this 6 2 (some n5.1)).bind fun h7 => some h7))))
def jd_95 (this : Nat) (p0 : Int) (p1 : Int) (h : jH) : Option jH :=
  ((jpi h this 6 0 p0).bind fun h1 => ((jpi h1 this 6 1 p1).bind fun h3 => some h3))
def jd_28_b41 (this : Nat) (x1 : Int) (x2 : Int) (x4 : Int) (x5 : Int) (h : jH) : Option ((Int × jH) ⊕ jH) :=
  ((jgr h this 2 15).bind fun r20 => ((r20).bind fun a22 => ((jar h a22 6 x5).bind fun r24 => ((r24).bind fun a26 => ((jck h a26 6).bind fun u28 => ((jd_95 a26 x1 x2 h).bind fun h30 => some (.inl ((x5 + 1), h30))))))))
def jd_28_s3 (this : Nat) (x1 : Int) (x2 : Int) (x4 : Int) (x5 : Int) (h : jH) : Option ((Int × jH) ⊕ jH) :=
  (if (jw x4) ≤ (jw x5) then some (.inr h) else (if 12 ≤ (jw x5) then some (.inr h) else ((jgr h this 2 15).bind fun r3 => ((r3).bind fun a5 => ((jar h a5 6 x5).bind fun r7 => (if r7 = none then ((jgr h this 2 15).bind fun r10 => ((jnw h 6).bind fun n12 => ((jd_94 n12.1 n12.2).bind fun h14 => ((r10).bind fun a16 => ((jtr h14 a16 6 x5 n12.1).bind fun h18 => jd_28_b41 this x1 x2 x4 x5 h18))))) else jd_28_b41 this x1 x2 x4 x5 h))))))
def jd_28_l3 (this : Nat) (x1 : Int) (x2 : Int) (x4 : Int) (x5 : Int) (h : jH) : Option jH :=
  jlp (fun s : (Int × jH) => jd_28_s3 this x1 x2 x4 s.1 s.2) jfu (x5, h)
def jd_28 (this : Nat) (p0 : Int) (p1 : Int) (p2 : Int) (p3 : Int) (h : jH) : Option jH :=
  ((jd_28_l3 this p0 p1 p3 p2 h).bind fun x33 => some x33)
def jd_30 (this : Nat) (p0 : Int) (h : jH) : Option Int :=
  ((jgr h this 2 5).bind fun r1 => ((r1).bind fun a3 => ((jab h a3 p0).bind fun v5 => some (jand v5 255))))
def jd_32_b102 (this : Nat) (y0 : Int) (h : jH) : Option (Int × jH) :=
  some (y0, h)
def jd_32 (this : Nat) (p0 : Int) (p1 : Int) (h : jH) : Option (Int × jH) :=
  ((jgi h this 2 6).bind fun v1 => (if (jw p1) < (jw v1) then ((jck h this 2).bind fun u4 => ((jd_30 this p1 h).bind fun v6 => (if (jw v6) ≤ 7 then ((jgi h this 2 6).bind fun v9 => (if (jw (p1 + 1)) < (jw v9) then ((jgr h this 2 10).bind fun r12 => ((jck h this 2).bind fun u14 => ((jd_30 this p1 h).bind fun v16 => ((jck h this 2).bind fun u18 => ((jd_30 this (p1 + 1) h).bind fun v20 => ((r12).bind fun a22 => ((jta h a22 0 p0 ((256 * v16) + v20)).bind fun h24 => ((jgr h24 this 2 10).bind fun r26 => ((r26).bind fun a28 => ((jai h24 a28 p0).bind fun v30 => (if (jw v30) ≤ 2000 then ((jgr h24 this 2 10).bind fun r33 => ((r33).bind fun a35 => ((jai h24 a35 p0).bind fun v37 => ((jgi h24 this 2 6).bind fun v39 => (if (jw ((p1 + 2) + v37)) ≤ (jw v39) then jd_32_b102 this (-1) h24 else ((jgi h24 this 2 6).bind fun v42 => jd_32_b102 this v42 h24)))))) else some (p1, h24)))))))))))) else ((jgi h this 2 6).bind fun v44 => some (v44, h)))) else some (p1, h)))) else ((jgi h this 2 6).bind fun v46 => some (v46, h))))
def jd_33_b20 (this : Nat)  (h : jH) : Option Int :=
  some 0
def jd_33_b47 (this : Nat)  (h : jH) : Option Int :=
  some 0
def jd_33_b146 (this : Nat) (x3 : Int) (x6 : Int) (y0 : Int) (h : jH) : Option ((Int × Int) ⊕ Int) :=
  some (.inl (y0, (x6 + 1)))
def jd_33_s115 (this : Nat) (x3 : Int) (x5 : Int) (x6 : Int) (h : jH) : Option ((Int × Int) ⊕ Int) :=
  ((jgr h this 2 8).bind fun r34 => ((r34).bind fun a36 => ((jai h a36 x3).bind fun v38 => (if (jw v38) ≤ (jw x6) then some (.inr x5) else (if (jw x5) = 0 then ((jgr h this 2 12).bind fun r42 => ((r42).bind fun a44 => ((jai h a44 x6).bind fun v46 => jd_33_b146 this x3 x6 (if 0 ≤ (jw v46) then 0 else 1) h))) else jd_33_b146 this x3 x6 1 h)))))
def jd_33_l115 (this : Nat) (x3 : Int) (x5 : Int) (x6 : Int) (h : jH) : Option Int :=
  jlp (fun s : (Int × Int) => jd_33_s115 this x3 s.1 s.2 h) jfu (x5, x6)
def jd_33_b85 (this : Nat) (y0 : Int) (h : jH) : Option Int :=
  ((jbc y0).bind fun u55 => some y0)
def jd_33_b49 (this : Nat) (x1 : Int) (x2 : Int) (h : jH) : Option Int :=
  ((jck h this 2).bind fun u18 => ((jd_35 this x1 0 h).bind fun v20 => (if (jw x2) = 2 then ((jck h this 2).bind fun u23 => ((jd_35 this v20 0 h).bind fun v25 => (if 0 ≤ (jw v25) then ((jgr h this 2 8).bind fun r28 => ((r28).bind fun a30 => ((jai h a30 v25).bind fun v32 => ((jd_33_l115 this v20 0 (v32 + 1) h).bind fun x50 => ((jbc x50).bind fun u52 => some x50))))) else some 0))) else (if (jw v20) < 0 then jd_33_b85 this 1 h else ((jgr h this 2 8).bind fun r57 => ((r57).bind fun a59 => ((jai h a59 v20).bind fun v61 => ((jgi h this 2 4).bind fun v63 => jd_33_b85 this (if (jw (v63 - 1)) ≤ (jw v61) then 0 else 1) h))))))))
def jd_33_b34 (this : Nat) (x1 : Int) (x2 : Int) (h : jH) : Option Int :=
  ((jgi h this 2 0).bind fun v14 => (if (jw v14) = 2 then (if (jw x2) = 2 then jd_33_b47 this  h else jd_33_b49 this x1 x2 h) else jd_33_b49 this x1 x2 h))
def jd_33_b22 (this : Nat) (x1 : Int) (x2 : Int) (h : jH) : Option Int :=
  ((jgi h this 2 0).bind fun v10 => (if (jw v10) = 1 then (if (jw x2) = 0 then jd_33_b34 this x1 x2 h else jd_33_b47 this  h) else jd_33_b34 this x1 x2 h))
def jd_33 (this : Nat) (p0 : Int) (h : jH) : Option Int :=
  ((jgr h this 2 7).bind fun r1 => ((r1).bind fun a3 => ((jai h a3 p0).bind fun v5 => (if 2 < (jw v5) then jd_33_b20 this  h else (if (jw p0) = 0 then (if (jw v5) = 0 then jd_33_b22 this p0 v5 h else jd_33_b20 this  h) else jd_33_b22 this p0 v5 h)))))
def jd_34_b24 (this : Nat)  (h : jH) : Option Int :=
  some 0
def jd_34_b102 (this : Nat) (y0 : Int) (h : jH) : Option Int :=
  ((jbc y0).bind fun u33 => some y0)
def jd_34_b101 (this : Nat)  (h : jH) : Option Int :=
  jd_34_b102 this 0 h
def jd_34_b62 (this : Nat) (y0 : Int) (h : jH) : Option Int :=
  ((jbc y0).bind fun u51 => some y0)
def jd_34 (this : Nat) (p0 : Int) (h : jH) : Option Int :=
  ((jgr h this 2 8).bind fun r1 => ((r1).bind fun a3 => ((jai h a3 p0).bind fun v5 => ((jgi h this 2 4).bind fun v7 => (if (jw v7) ≤ (jw v5) then jd_34_b24 this  h else ((jgr h this 2 12).bind fun r10 => ((r10).bind fun a12 => ((jai h a12 v5).bind fun v14 => (if (jw v14) < 0 then ((jck h this 2).bind fun u17 => ((jd_35 this p0 0 h).bind fun v19 => ((jgr h this 2 7).bind fun r21 => ((r21).bind fun a23 => ((jai h a23 p0).bind fun v25 => (if (jw v25) = 2 then ((jck h this 2).bind fun u28 => ((jd_35 this v19 0 h).bind fun v30 => (if (jw v30) < 0 then jd_34_b101 this  h else ((jgr h this 2 8).bind fun r35 => ((r35).bind fun a37 => ((jai h a37 v30).bind fun v39 => (if (jw v5) ≤ (jw v39) then jd_34_b101 this  h else ((jgr h this 2 8).bind fun r42 => ((r42).bind fun a44 => ((jai h a44 v19).bind fun v46 => jd_34_b102 this (if (jw v46) ≤ (jw v5) then 0 else 1) h)))))))))) else (if (jw v19) < 0 then jd_34_b62 this 1 h else ((jgr h this 2 8).bind fun r53 => ((r53).bind fun a55 => ((jai h a55 v19).bind fun v57 => jd_34_b62 this (if (jw v5) ≤ (jw v57) then 0 else 1) h)))))))))) else jd_34_b24 this  h)))))))))
def jd_31_b161 (this : Nat) (x2 : Int) (h : jH) : Option (Int × jH) :=
  some ((x2 + 2), h)
def jd_31_b165 (this : Nat) (x1 : Int) (x2 : Int) (h : jH) : Option (Int × jH) :=
  ((jck h this 2).bind fun u85 => ((jd_32 this x1 (x2 + 3) h).bind fun q87 => some (q87.1, q87.2)))
def jd_31 (this : Nat) (p0 : Int) (p1 : Int) (h : jH) : Option (Int × jH) :=
  ((jgr h this 2 11).bind fun r1 => ((r1).bind fun a3 => ((jta h a3 0 p0 p1).bind fun h5 => ((jgi h5 this 2 6).bind fun v7 => (if (jw p1) < (jw v7) then ((jgr h5 this 2 7).bind fun r10 => ((jck h5 this 2).bind fun u12 => ((jd_30 this p1 h5).bind fun v14 => ((r10).bind fun a16 => ((jta h5 a16 0 p0 v14).bind fun h18 => ((jck h18 this 2).bind fun u20 => ((jd_33 this p0 h18).bind fun v22 => (if (jw v22) = 0 then some (p1, h18) else ((jgi h18 this 2 6).bind fun v25 => (if (jw (p1 + 1)) < (jw v25) then ((jgr h18 this 2 8).bind fun r28 => ((jck h18 this 2).bind fun u30 => ((jd_30 this (p1 + 1) h18).bind fun v32 => ((r28).bind fun a34 => ((jta h18 a34 0 p0 v32).bind fun h36 => ((jck h36 this 2).bind fun u38 => ((jd_34 this p0 h36).bind fun v40 => (if (jw v40) = 0 then some ((p1 + 1), h36) else ((jgr h36 this 2 12).bind fun r43 => ((jgr h36 this 2 8).bind fun r45 => ((r45).bind fun a47 => ((jai h36 a47 p0).bind fun v49 => ((r43).bind fun a51 => ((jta h36 a51 0 v49 p0).bind fun h53 => ((jgi h53 this 2 6).bind fun v55 => (if (jw (p1 + 2)) < (jw v55) then ((jgr h53 this 2 9).bind fun r58 => ((jck h53 this 2).bind fun u60 => ((jd_30 this (p1 + 2) h53).bind fun v62 => ((r58).bind fun a64 => ((jta h53 a64 0 p0 v62).bind fun h66 => ((jgi h66 this 2 0).bind fun v68 => (if (jw v68) = 0 then ((jgr h66 this 2 9).bind fun r71 => ((r71).bind fun a73 => ((jai h66 a73 p0).bind fun v75 => (if (jw v75) < 1 then jd_31_b161 this p1 h66 else ((jgr h66 this 2 9).bind fun r78 => ((r78).bind fun a80 => ((jai h66 a80 p0).bind fun v82 => (if (jw v82) ≤ 31 then jd_31_b165 this p0 p1 h66 else jd_31_b161 this p1 h66)))))))) else ((jgr h66 this 2 9).bind fun r89 => ((r89).bind fun a91 => ((jai h66 a91 p0).bind fun v93 => (if (jw v93) = 0 then jd_31_b165 this p0 p1 h66 else jd_31_b161 this p1 h66))))))))))) else ((jgi h53 this 2 6).bind fun v96 => some (v96, h53)))))))))))))))))) else ((jgi h18 this 2 6).bind fun v98 => some (v98, h18)))))))))))) else ((jgi h5 this 2 6).bind fun v100 => some (v100, h5)))))))
