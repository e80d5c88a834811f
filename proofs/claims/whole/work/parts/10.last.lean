theorem th_last : True := trivial
