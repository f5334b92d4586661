abbrev SOKs (s : StateS) : Prop := SOK s.1.1.1.1.1.1 s.1.1.1.1.1.2 s.1.1.1.1.2 s.1.1.1.2.1.1 s.1.1.1.2.1.2 s.1.1.1.2.2 s.1.1.2 s.1.2 s.2.1.1.1 s.2.1.1.2 s.2.1.2.1 s.2.1.2.2 s.2.2.1.1 s.2.2.1.2 s.2.2.2.1 s.2.2.2.2
def hslot (h : HistoryS) (j : Nat) : StateS := if j = 0 then h.1.2 else if j = 1 then h.2.1.2 else if j = 2 then h.2.2.1.2 else if j = 3 then h.2.2.2.1.2 else h.2.2.2.2.1.2
