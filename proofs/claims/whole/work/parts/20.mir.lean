-- X8_isWithin: PanelHouse.isWithin(III)Z
def m_X8_isWithin (a1 : Int32) (a2 : Int32) (a3 : Int32) (h : HS) : Option (Int32 × HS) := if a1 < a2 then (some ((0 : Int32), h)) else (if a3 < a1 then (some ((0 : Int32), h)) else (some ((1 : Int32), h)))
-- X0_runsIn: PanelHouse$Contract.runsIn(I)Z
def m_X0_runsIn (th : Nat) (a1 : Int32) (h : HS) : Option (Int32 × HS) := (gI h (some th) 1 2).bind fun x1 => if a1 < x1 then (some ((0 : Int32), h)) else ((gI h (some th) 1 3).bind fun x2 => if x2 = (-1 : Int32) then (some ((1 : Int32), h)) else ((gI h (some th) 1 3).bind fun x3 => if x3 < a1 then (some ((0 : Int32), h)) else (some ((1 : Int32), h))))
-- X0_weeksRunIn: PanelHouse$Contract.weeksRunIn(I)I
def X0_weeksRunIn_b24 (th : Nat) (go4 : Int32 → Int32 → Int32 → HS → Option (Int32 × HS)) (l1 : Int32) (l2 : Int32) (l3 : Int32) (h : HS) : Option (Int32 × HS) := go4 l1 l2 (l3 + (1)) h
def X0_weeksRunIn_L4 (th : Nat) : Nat → Int32 → Int32 → Int32 → HS → Option (Int32 × HS)
  | 0 => fun _ _ _ _ => none
  | n + 1 => fun l1 l2 l3 h => if (4 : Int32) < l3 then (some (l2, h)) else ((vc h (some th) 1 (fun b2 => m_X0_runsIn b2 ((l1 * (4 : Int32)) + l3) h)).bind fun q1 => if q1.1 = 0 then (X0_weeksRunIn_b24 th (X0_weeksRunIn_L4 th n) l1 l2 l3 q1.2) else (X0_weeksRunIn_b24 th (X0_weeksRunIn_L4 th n) l1 (l2 + (1)) l3 q1.2))
def m_X0_weeksRunIn (th : Nat) (a1 : Int32) (h : HS) : Option (Int32 × HS) := X0_weeksRunIn_L4 th FU a1 ((0 : Int32)) ((1 : Int32)) h
-- X0_receive: PanelHouse$Contract.receive(I)V
def X0_receive_b62 (th : Nat) (s2 : Int32) (s1 : Int32) (s0 : Option Nat) (h : HS) : Option (HS) := (yI 202 h s0 s1 s2).bind fun h1 => (gI h1 (some th) 1 6).bind fun x2 => (pI h1 (some th) 1 6 (x2 + (1 : Int32))).bind fun h3 => some h3
def X0_receive_b41 (th : Nat) (l1 : Int32) (h : HS) : Option (HS) := (gR h (some th) 1 9).bind fun x1 => (gI h (some th) 1 6).bind fun x2 => (gI h (some th) 1 4).bind fun x3 => if x3 = l1 then (X0_receive_b62 th ((0 : Int32)) x2 x1 h) else (X0_receive_b62 th ((1 : Int32)) x2 x1 h)
def m_X0_receive (th : Nat) (a1 : Int32) (h : HS) : Option (HS) := (gR h (some th) 1 1).bind fun x1 => (gI h x1 2 7).bind fun x2 => if x2 = 0 then (some h) else ((gI h (some th) 1 6).bind fun x3 => (gR h (some th) 1 9).bind fun x4 => (aN h x4).bind fun x5 => if x3 < x5 then ((gI h (some th) 1 6).bind fun x6 => if x6 = 0 then ((gR h (some th) 1 1).bind fun x7 => (gI h x7 2 6).bind fun x8 => (pI h (some th) 1 5 x8).bind fun h9 => X0_receive_b41 th a1 h9) else (X0_receive_b41 th a1 h)) else (some h))
-- X0_isThere: PanelHouse$Contract.isThere(I)Z
def m_X0_isThere (th : Nat) (a1 : Int32) (h : HS) : Option (Int32 × HS) := if a1 < 0 then (some ((0 : Int32), h)) else ((gI h (some th) 1 6).bind fun x1 => if x1 ≤ a1 then (some ((0 : Int32), h)) else ((gR h (some th) 1 9).bind fun x2 => (aN h x2).bind fun x3 => if x3 ≤ a1 then (some ((0 : Int32), h)) else ((gR h (some th) 1 9).bind fun x4 => (xI 202 h x4 a1).bind fun x5 => if x5 = 0 then (some ((0 : Int32), h)) else (some ((1 : Int32), h)))))
-- X0_print: PanelHouse$Contract.print(I)V
def X0_print_b64 (th : Nat) (l1 : Int32) (l2 : Int32) (h : HS) : Option (HS) := (gI h (some th) 1 7).bind fun x1 => (pI h (some th) 1 7 (x1 + l2)).bind fun h2 => (gR h2 (some th) 1 10).bind fun x3 => (aN h2 x3).bind fun x4 => (m_X8_isWithin l1 (0 : Int32) (x4 - (1 : Int32)) h2).bind fun q5 => if q5.1 = 0 then (some q5.2) else ((gR q5.2 (some th) 1 10).bind fun x6 => (xI 201 q5.2 x6 l1).bind fun x7 => (yI 201 q5.2 x6 l1 (x7 + l2)).bind fun h8 => some h8)
def X0_print_b44 (th : Nat) (l1 : Int32) (l2 : Int32) (s0 : Int32) (h : HS) : Option (HS) := if s0 = 0 then (X0_print_b64 th l1 l2 h) else ((gI h (some th) 1 7).bind fun x1 => (vc h (some th) 1 (fun b3 => m_X0_isThere b3 (x1 + (1 : Int32)) h)).bind fun q2 => if q2.1 = 0 then (X0_print_b64 th l1 l2 q2.2) else (X0_print_b64 th l1 ((2 : Int32)) q2.2))
def X0_print_b39 (th : Nat) (l1 : Int32) (l2 : Int32) (h : HS) : Option (HS) := X0_print_b44 th l1 l2 ((1 : Int32)) h
def m_X0_print (th : Nat) (a1 : Int32) (h : HS) : Option (HS) := (gI h (some th) 1 7).bind fun x1 => (vc h (some th) 1 (fun b3 => m_X0_isThere b3 x1 h)).bind fun q2 => if q2.1 = 0 then (some q2.2) else ((gR q2.2 (some th) 1 1).bind fun x4 => (gI q2.2 x4 2 7).bind fun x5 => if x5 = 0 then (X0_print_b39 th a1 ((1 : Int32)) q2.2) else ((gI q2.2 (some th) 1 7).bind fun x6 => (gI q2.2 (some th) 1 6).bind fun x7 => if (x7 - (1 : Int32)) ≤ (x6 + (1 : Int32)) then (X0_print_b44 th a1 ((1 : Int32)) ((0 : Int32)) q2.2) else (X0_print_b39 th a1 ((1 : Int32)) q2.2)))
-- X0_printedIn: PanelHouse$Contract.printedIn(I)I
def m_X0_printedIn (th : Nat) (a1 : Int32) (h : HS) : Option (Int32 × HS) := (gR h (some th) 1 10).bind fun x1 => (aN h x1).bind fun x2 => (m_X8_isWithin a1 (0 : Int32) (x2 - (1 : Int32)) h).bind fun q3 => if q3.1 = 0 then (some ((0 : Int32), q3.2)) else ((gR q3.2 (some th) 1 10).bind fun x4 => (xI 201 q3.2 x4 a1).bind fun x5 => some (x5, q3.2))
-- X0_nextPanel: PanelHouse$Contract.nextPanel()I
def m_X0_nextPanel (th : Nat) (h : HS) : Option (Int32 × HS) := (gI h (some th) 1 6).bind fun x1 => if x1 = 0 then (some ((-1 : Int32), h)) else ((gI h (some th) 1 5).bind fun x2 => (gI h (some th) 1 7).bind fun x3 => some (x2 + x3, h))
-- X0_gap: PanelHouse$Contract.gap()I
def m_X0_gap (th : Nat) (h : HS) : Option (Int32 × HS) := (gI h (some th) 1 6).bind fun x1 => (gI h (some th) 1 7).bind fun x2 => some (x1 - x2, h)
-- X0_missing: PanelHouse$Contract.missing()I
def X0_missing_b26 (th : Nat) (go7 : Int32 → Int32 → HS → Option (Int32 × HS)) (l1 : Int32) (l2 : Int32) (h : HS) : Option (Int32 × HS) := go7 l1 (l2 + (1)) h
def X0_missing_L7 (th : Nat) : Nat → Int32 → Int32 → HS → Option (Int32 × HS)
  | 0 => fun _ _ _ => none
  | n + 1 => fun l1 l2 h => (gI h (some th) 1 6).bind fun x1 => if x1 ≤ l2 then (some (l1, h)) else ((vc h (some th) 1 (fun b3 => m_X0_isThere b3 l2 h)).bind fun q2 => if q2.1 = 0 then (X0_missing_b26 th (X0_missing_L7 th n) (l1 + (1)) l2 q2.2) else (X0_missing_b26 th (X0_missing_L7 th n) l1 l2 q2.2))
def m_X0_missing (th : Nat) (h : HS) : Option (Int32 × HS) := (gI h (some th) 1 7).bind fun x1 => X0_missing_L7 th FU ((0 : Int32)) x1 h
