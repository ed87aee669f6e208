/-- the two tapes are of one length -/
def rt (h : qm_H) : Prop := (h 23 2).toInt = (h 39 9).toInt
