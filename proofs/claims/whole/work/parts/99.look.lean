theorem tt_1 : True := trivial
