theorem nothing_05 : True := trivial
